import java.io.IOException;
import java.lang.reflect.InvocationTargetException;
import java.lang.reflect.Method;
import java.lang.reflect.Modifier;
import java.nio.file.Path;
import java.util.ArrayList;
import java.util.Arrays;
import java.util.Comparator;
import java.util.LinkedHashMap;
import java.util.List;
import java.util.Map;

/**
 * Runs the tests of single sentences, and looks whether the document says each sentence under the heading that its test
 * names, and whether each sentence ahead of "Not promised" has a test.
 */
public final class SentencesTest {
    private static final List<Sentences> PARTS = List.of(new TermsSentences(), new LayersSentences(),
            new SamplesSentences(), new ThereIsSentences(), new CouldBeSentences(), new WouldBeSentences());

    /** Words that tell no case: what it is all about, what is free, and how the interface is laid out. */
    private static final List<String> TELL_NO_CASE = List.of("A silo of mixed grain.",
            "what later calls answer is free.", "Layers lie one upon the other, damper or drier than one "
            + "can see; samples tell how damp some layers beside each other are together, and get doubtful day by day; "
            + "layers even out, are let out at the bottom, or turned over; and one can ask how damp each layer is, how "
            + "damp it could be at the least and at the most by the samples, which one could be the worst, which are "
            + "surely dry, what a sample would tell, which layer had best be looked at, and how many have to be let "
            + "out till some grain comes. All numbers are whole.",
            "Ahead of the calls fill, letOut, turnOver, setLimit, pass the interface says: ---- layers.",
            "Ahead of the calls draw, throwAway, samples, lowestOf, highestOf, sumOf, doubtOf the interface says: ---- "
            + "samples.",
            "Ahead of the calls layers, day, limit, sold, spoilt, kindOf, dampnessOf, dampLayers, layersAheadOf the "
            + "interface says: ---- what there is.",
            "Ahead of the calls leastOf, greatestOf, isKnown, surelyDry, surelyDamp, worstLayer, doubt, leastSum, "
            + "greatestSum the interface says: ---- what could be.",
            "Ahead of the calls doubtBehind, bestToLookAt, dampnessIn, daysUntilEven, meanDampness, digest the "
            + "interface says: ---- what would be.");

    private final Checks all = new Checks("SentencesTest");
    private final Document document;
    private final Map<String, List<String>> said = new LinkedHashMap<>();

    private SentencesTest(Document document) {
        this.document = document;
    }

    public static void main(String[] args) throws IOException, IllegalAccessException {
        SentencesTest test = new SentencesTest(Document.read(Path.of("../shared/DOC.md")));
        for (Sentences part : PARTS) {
            Method[] methods = part.getClass().getDeclaredMethods();
            Arrays.sort(methods, Comparator.comparing(Method::getName));
            for (Method method : methods) {
                if (!Modifier.isPrivate(method.getModifiers()) && !method.isSynthetic()) {
                    test.run(part, method);
                }
            }
        }
        test.lookForSentencesWithoutTest();
        test.all.finish();
    }

    private void run(Sentences part, Method method) throws IllegalAccessException {
        Sentence sentence = method.getAnnotation(Sentence.class);
        String name = part.getClass().getSimpleName() + "." + method.getName();
        all.due(name + " is marked with its sentence", true, sentence != null);
        if (sentence == null) {
            return;
        }
        all.due(name + ": the document says so under " + sentence.of(), true,
                document.says(sentence.of(), sentence.says()));
        all.due(name + " names its promise", true, method.getName().matches(headOf(sentence.of()) + "[A-Z].*"));
        said.computeIfAbsent(sentence.of(), heading -> new ArrayList<>()).add(sentence.says());
        Checks checks = new Checks(name + " (" + sentence.of() + ": \"" + sentence.says() + "\")");
        part.countWith(checks);
        try {
            method.invoke(part);
        } catch (InvocationTargetException e) {
            checks.due("a call", "no exception", e.getCause().toString());
        }
        all.due(name + " asks something", true, checks.anyAsked());
        all.add(checks);
    }

    private static String headOf(String heading) {
        return switch (heading) {
            case "Terms" -> "terms";
            case "What it is" -> "whatItIs";
            default -> heading.replace("Promise ", "promise");
        };
    }

    /** FaceTest stands for what is under "The public face"; nothing is asked of what is under "Not promised". */
    private void lookForSentencesWithoutTest() {
        List<String> asked = headingsWithSentences();
        List<String> headings = new ArrayList<>(document.headings());
        headings.removeAll(List.of("The public face", "Not promised"));
        all.due("the headings of the document", asked, headings);
        for (String heading : asked) {
            List<String> words = new ArrayList<>(said.getOrDefault(heading, List.of()));
            words.addAll(TELL_NO_CASE);
            all.due("the words under " + heading + " that no test stands for", "", document.leftOf(heading, words));
        }
    }

    private static List<String> headingsWithSentences() {
        List<String> headings = new ArrayList<>(List.of("What it is", "Terms"));
        for (int promise = 1; promise <= 37; promise++) {
            headings.add("Promise " + promise);
        }
        return headings;
    }
}
