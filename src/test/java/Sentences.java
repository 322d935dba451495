import java.util.ArrayList;
import java.util.List;
import java.util.function.Supplier;

/** What the tests of single sentences share: each is a method marked with its Sentence, run by SentencesTest. */
abstract class Sentences {
    static final Class<? extends RuntimeException> ARGUMENT = IllegalArgumentException.class;
    static final Class<? extends RuntimeException> STATE = IllegalStateException.class;
    static final Class<? extends RuntimeException> INDEX = IndexOutOfBoundsException.class;
    static final int LOWEST = Integer.MIN_VALUE;
    static final int HIGHEST = Integer.MAX_VALUE;

    private Checks checks;

    interface Call {
        Object on(GrainSilo silo);
    }

    interface NumberCall {
        Object on(GrainSilo silo, int number);
    }

    interface LayersCall {
        Object on(GrainSilo silo, int from, int to);
    }

    final void countWith(Checks checks) {
        this.checks = checks;
    }

    final void due(String call, Object due, Object answer) {
        checks.due(call, due, answer);
    }

    final void dueDampness(String when, GrainSilo silo, int... dampness) {
        due("layers() " + when, dampness.length, silo.layers());
        for (int layer = 0; layer < dampness.length; layer++) {
            due("dampnessOf(" + layer + ") " + when, dampness[layer], silo.dampnessOf(layer));
        }
    }

    final void dueKinds(String when, GrainSilo silo, int... kinds) {
        due("layers() " + when, kinds.length, silo.layers());
        for (int layer = 0; layer < kinds.length; layer++) {
            due("kindOf(" + layer + ") " + when, kinds[layer], silo.kindOf(layer));
        }
    }

    final void dueSample(String when, GrainSilo silo, int sample, int lowest, int highest, int sum, int doubt) {
        due("lowestOf(" + sample + ") " + when, lowest, silo.lowestOf(sample));
        due("highestOf(" + sample + ") " + when, highest, silo.highestOf(sample));
        due("sumOf(" + sample + ") " + when, sum, silo.sumOf(sample));
        due("doubtOf(" + sample + ") " + when, doubt, silo.doubtOf(sample));
    }

    final void dueRange(String when, GrainSilo silo, int layer, int least, int greatest) {
        due("leastOf(" + layer + ") " + when, least, silo.leastOf(layer));
        due("greatestOf(" + layer + ") " + when, greatest, silo.greatestOf(layer));
    }

    final void dueSums(String when, GrainSilo silo, int from, int to, int least, int greatest) {
        due("leastSum(" + from + ", " + to + ") " + when, least, silo.leastSum(from, to));
        due("greatestSum(" + from + ", " + to + ") " + when, greatest, silo.greatestSum(from, to));
    }

    /** The call must throw just this exception, and every answer afterwards be as it is without the call. */
    final void dueRefused(String call, Class<? extends RuntimeException> due, Supplier<GrainSilo> maker, Call made) {
        GrainSilo refused = maker.get();
        due(call, "throws " + due.getName(), Checks.answerOf(() -> made.on(refused)));
        dueNothingChanged(call, maker, made);
    }

    /**
     * Every answer must be as it is without the call, and so must be those of later calls that change much. It is
     * asked of another silo made in the same way, as one object has no calls enough to be asked twice.
     */
    final void dueNothingChanged(String call, Supplier<GrainSilo> maker, Call made) {
        GrainSilo called = maker.get();
        Checks.answerOf(() -> made.on(called));
        dueAllAlike(call, Answers.of(maker.get()), Answers.of(called));
        GrainSilo later = maker.get();
        Checks.answerOf(() -> made.on(later));
        dueAllAlike(call, laterAnswers(maker.get()), laterAnswers(later));
    }

    private void dueAllAlike(String call, List<String> without, List<String> with) {
        due("the number of answers behind " + call, without.size(), with.size());
        for (int i = 0; i < Math.min(without.size(), with.size()); i++) {
            due("behind " + call, without.get(i), with.get(i));
        }
    }

    private static List<String> laterAnswers(GrainSilo silo) {
        Call[] calls = {
            GrainSilo::digest, any -> any.pass(2), GrainSilo::digest, any -> any.throwAway(0), GrainSilo::digest,
            any -> any.draw(0, 0), GrainSilo::digest, any -> any.setLimit(9), GrainSilo::digest,
            GrainSilo::turnOver, GrainSilo::digest, GrainSilo::letOut, GrainSilo::digest,
            any -> any.fill(1, 7), GrainSilo::digest, any -> any.draw(0, 1), GrainSilo::digest,
        };
        List<String> answers = new ArrayList<>();
        for (Call call : calls) {
            answers.add("later: " + Checks.answerOf(() -> call.on(silo)));
        }
        return answers;
    }

    /** Numbers just outside lowest to highest, and far outside. */
    static int[] outside(int lowest, int highest) {
        return new int[] {lowest - 1, highest + 1, lowest - 7, highest + 100, LOWEST, HIGHEST};
    }

    final void dueRefusedOutside(String name, int lowest, int highest, Class<? extends RuntimeException> due,
            Supplier<GrainSilo> maker, NumberCall made) {
        for (int wrong : outside(lowest, highest)) {
            dueRefused(name + "(" + wrong + ")", due, maker, silo -> made.on(silo, wrong));
        }
    }

    /** "if there is no such layer": of none, of one, of five and of twelve. */
    final void dueRefusedOfNoLayer(String name, NumberCall made) {
        dueRefused(name + "(0) of no layers", INDEX, Silos::empty, silo -> made.on(silo, 0));
        dueRefusedOutside(name + " of no layers ", 0, -1, INDEX, Silos::empty, made);
        dueRefusedOutside(name + " of one layer ", 0, 0, INDEX, Silos::one, made);
        dueRefusedOutside(name + " of five layers ", 0, 4, INDEX, Silos::busy, made);
        dueRefusedOutside(name + " of twelve layers ", 0, 11, INDEX, Silos::full, made);
        for (int layer : new int[] {0, 4}) {
            due(name + "(" + layer + ") of five layers is answered", false, isThrow(made, Silos.busy(), layer));
        }
        for (int layer : new int[] {0, 11}) {
            due(name + "(" + layer + ") of twelve layers is answered", false, isThrow(made, Silos.full(), layer));
        }
    }

    /** "if there is no such sample": of none, of one, of four and of sixteen. */
    final void dueRefusedOfNoSample(String name, NumberCall made) {
        dueRefused(name + "(0) of no samples", INDEX, Silos::twelve, silo -> made.on(silo, 0));
        dueRefusedOutside(name + " of no samples ", 0, -1, INDEX, Silos::empty, made);
        dueRefusedOutside(name + " of one sample ", 0, 0, INDEX, Silos::one, made);
        dueRefusedOutside(name + " of four samples ", 0, 3, INDEX, Silos::busy, made);
        dueRefusedOutside(name + " of sixteen samples ", 0, 15, INDEX, Silos::full, made);
        for (int sample : new int[] {0, 3}) {
            due(name + "(" + sample + ") of four samples is answered", false, isThrow(made, Silos.busy(), sample));
        }
        for (int sample : new int[] {0, 15}) {
            due(name + "(" + sample + ") of sixteen samples is answered", false, isThrow(made, Silos.full(), sample));
        }
    }

    private static boolean isThrow(NumberCall made, GrainSilo silo, int number) {
        return Checks.answerOf(() -> made.on(silo, number)).toString().startsWith("throws");
    }

    /** "if there are no such layers, or from is greater than to": each end by itself, and both. */
    final void dueRefusedOfNoLayers(String name, LayersCall made) {
        int[][] wrong = {{-1, 0}, {-1, 4}, {LOWEST, 4}, {0, 5}, {4, 5}, {0, HIGHEST}, {-1, 5}, {LOWEST, HIGHEST},
            {-1, -1}, {LOWEST, LOWEST}, {5, 5}, {HIGHEST, HIGHEST},
            {1, 0}, {4, 3}, {4, 0}, {0, -1}, {5, 4}, {5, 0}, {HIGHEST, LOWEST}, {HIGHEST, 0}, {4, LOWEST}};
        for (int[] w : wrong) {
            dueRefused(name + "(" + w[0] + ", " + w[1] + ") of five layers", INDEX, Silos::busy,
                    silo -> made.on(silo, w[0], w[1]));
        }
        int[][] wrongOfTwelve = {{0, 12}, {12, 12}, {11, 12}, {12, 11}, {11, 10}, {-1, 11}};
        for (int[] w : wrongOfTwelve) {
            dueRefused(name + "(" + w[0] + ", " + w[1] + ") of twelve layers", INDEX, Silos::full,
                    silo -> made.on(silo, w[0], w[1]));
        }
        dueRefused(name + "(0, 0) of no layers", INDEX, Silos::empty, silo -> made.on(silo, 0, 0));
        dueRefused(name + "(0, -1) of no layers", INDEX, Silos::empty, silo -> made.on(silo, 0, -1));
        dueRefused(name + "(0, 1) of one layer", INDEX, Silos::one, silo -> made.on(silo, 0, 1));
    }
}
