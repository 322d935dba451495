import java.util.function.Supplier;

/** Counts the answers that are not due; every test ends with finish(). */
final class Checks {
    private final String test;
    private int asked = 0;
    private int wrong = 0;

    Checks(String test) {
        this.test = test;
    }

    void due(String call, Object due, Object answer) {
        asked++;
        if (!due.equals(answer)) {
            wrong++;
            System.out.println(test + ": " + call + " answered " + answer + ", due is " + due);
        }
    }

    /** The call must throw just this exception, and the silo be as before. */
    void dueThrow(String call, Class<? extends RuntimeException> due, GrainSilo silo, Supplier<Object> made) {
        long before = silo.digest();
        due(call, "throws " + due.getName(), answerOf(made));
        due("digest() behind " + call, before, silo.digest());
    }

    /** What a call answers, or the exception that it throws, as a text. */
    static Object answerOf(Supplier<Object> made) {
        try {
            return made.get();
        } catch (RuntimeException e) {
            return "throws " + e.getClass().getName();
        }
    }

    boolean anyAsked() {
        return asked > 0;
    }

    /** Counts in what another one has counted. */
    void add(Checks other) {
        asked += other.asked;
        wrong += other.wrong;
    }

    boolean anyWrong() {
        return wrong > 0;
    }

    void finish() {
        System.out.println(test + ": " + asked + " asked, " + wrong + " not as due");
        if (wrong > 0) {
            System.exit(1);
        }
    }
}
