import java.lang.annotation.ElementType;
import java.lang.annotation.Retention;
import java.lang.annotation.RetentionPolicy;
import java.lang.annotation.Target;

/** Marks a test by the sentence of the document that it stands for. */
@Retention(RetentionPolicy.RUNTIME)
@Target(ElementType.METHOD)
@interface Sentence {
    /** The heading that the sentence stands under: "Promise 2", "Terms" or "What it is". */
    String of();

    /** The sentence, or that part of it that the test stands for, in the document's own words. */
    String says();
}
