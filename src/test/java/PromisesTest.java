import java.util.function.Supplier;

/** Each promise of the document by itself, with answers reckoned by hand. */
public final class PromisesTest {
    private static final Class<? extends RuntimeException> ARGUMENT = IllegalArgumentException.class;
    private static final Class<? extends RuntimeException> STATE = IllegalStateException.class;
    private static final Class<? extends RuntimeException> INDEX = IndexOutOfBoundsException.class;
    private static final int LOWEST = Integer.MIN_VALUE;
    private static final int HIGHEST = Integer.MAX_VALUE;

    private final Checks checks = new Checks("PromisesTest");

    public static void main(String[] args) {
        PromisesTest test = new PromisesTest();
        test.layerCalls();
        test.sampleCalls();
        test.callsForWhatThereIs();
        test.callsForWhatCouldBe();
        test.callsForWhatWouldBe();
        test.checks.finish();
    }

    private void layerCalls() {
        promise1NewObject();
        promise2Fill();
        promise2FillWhenFull();
        promise3LetOut();
        promise3LetOutOfSamples();
        promise3LetOutOfSixteen();
        promise3SumBelowNothing();
        promise4TurnOver();
        promise5SetLimit();
        promise6Pass();
        promise6DayByDay();
        promise6Doubt();
    }

    private void sampleCalls() {
        promise7Draw();
        promise7DrawTooMany();
        promise8ThrowAway();
        promise9Samples();
        promises10To13OfSample();
    }

    private void callsForWhatThereIs() {
        promises14To18();
        promises19And20();
        promise21DampLayers();
        promise22LayersAheadOf();
    }

    private void callsForWhatCouldBe() {
        promises23And24();
        promises23And24ByDoubt();
        promise25IsKnown();
        promises26And27();
        promise28WorstLayer();
        promise29Doubt();
        promises30And31();
    }

    private void callsForWhatWouldBe() {
        promise32DoubtBehind();
        promise33BestToLookAt();
        promise33BestOfTwelve();
        eachSeesWhatIsDrawn();
        promise34DampnessIn();
        promise35DaysUntilEven();
        promise35AtItsBound();
        promise36MeanDampness();
        promise37Digest();
        promise37DigestOfAll();
    }

    private void due(String call, Object due, Object answer) {
        checks.due(call, due, answer);
    }

    private void dueThrow(String call, Class<? extends RuntimeException> due, GrainSilo silo, Supplier<Object> made) {
        checks.dueThrow(call, due, silo, made);
    }

    /** A silo with layers so damp, of kinds 0, 1, 2, 3, 4, 0, 1, .. */
    private static GrainSilo silo(int... dampness) {
        GrainSilo silo = new GrainSilo();
        for (int layer = 0; layer < dampness.length; layer++) {
            silo.fill(layer % 5, dampness[layer]);
        }
        return silo;
    }

    private static GrainSilo fullSilo() {
        return silo(1, 2, 3, 4, 5, 6, 7, 8, 9, 10, 11, 12);
    }

    private void dueDampness(String when, GrainSilo silo, int... dampness) {
        due("layers() " + when, dampness.length, silo.layers());
        for (int layer = 0; layer < dampness.length; layer++) {
            due("dampnessOf(" + layer + ") " + when, dampness[layer], silo.dampnessOf(layer));
        }
    }

    private void dueSample(String when, GrainSilo silo, int sample, int lowest, int highest, int sum, int doubt) {
        due("lowestOf(" + sample + ") " + when, lowest, silo.lowestOf(sample));
        due("highestOf(" + sample + ") " + when, highest, silo.highestOf(sample));
        due("sumOf(" + sample + ") " + when, sum, silo.sumOf(sample));
        due("doubtOf(" + sample + ") " + when, doubt, silo.doubtOf(sample));
    }

    private void dueRange(String when, GrainSilo silo, int layer, int least, int greatest) {
        due("leastOf(" + layer + ") " + when, least, silo.leastOf(layer));
        due("greatestOf(" + layer + ") " + when, greatest, silo.greatestOf(layer));
    }

    private interface LayersCall {
        Object of(GrainSilo silo, int from, int to);
    }

    private interface NumberCall {
        Object of(GrainSilo silo, int number);
    }

    /** Two layers, and all that is not 0 to 0, 0 to 1 or 1 to 1. */
    private void dueThrowsOfLayers(String name, LayersCall call) {
        int[][] wrong = {{-1, 0}, {-1, -1}, {0, 2}, {1, 2}, {2, 2}, {1, 0}, {0, -1}, {2, 1},
            {LOWEST, 0}, {0, HIGHEST}, {LOWEST, HIGHEST}, {HIGHEST, LOWEST}, {HIGHEST, HIGHEST}};
        for (int[] w : wrong) {
            GrainSilo two = silo(3, 4);
            dueThrow(name + "(" + w[0] + ", " + w[1] + ")", INDEX, two, () -> call.of(two, w[0], w[1]));
        }
        GrainSilo none = new GrainSilo();
        dueThrow(name + "(0, 0) without layers", INDEX, none, () -> call.of(none, 0, 0));
    }

    private void dueThrowsOfLayer(String name, NumberCall call) {
        for (int wrong : new int[] {-1, 2, 12, LOWEST, HIGHEST}) {
            GrainSilo two = silo(3, 4);
            dueThrow(name + "(" + wrong + ")", INDEX, two, () -> call.of(two, wrong));
        }
        GrainSilo none = new GrainSilo();
        dueThrow(name + "(0) without layers", INDEX, none, () -> call.of(none, 0));
        GrainSilo full = fullSilo();
        dueThrow(name + "(12) of 12", INDEX, full, () -> call.of(full, 12));
    }

    private void dueThrowsOfSample(String name, NumberCall call) {
        for (int wrong : new int[] {-1, 2, 16, LOWEST, HIGHEST}) {
            GrainSilo two = silo(3, 4);
            two.draw(0, 0);
            two.draw(0, 1);
            dueThrow(name + "(" + wrong + ")", INDEX, two, () -> call.of(two, wrong));
        }
        GrainSilo none = silo(3, 4);
        dueThrow(name + "(0) without samples", INDEX, none, () -> call.of(none, 0));
        GrainSilo full = silo(3);
        for (int i = 0; i < 16; i++) {
            full.draw(0, 0);
        }
        dueThrow(name + "(16) of 16", INDEX, full, () -> call.of(full, 16));
    }

    // ---- layers

    private void promise1NewObject() {
        GrainSilo silo = new GrainSilo();
        due("layers()", 0, silo.layers());
        due("samples()", 0, silo.samples());
        due("day()", 0, silo.day());
        due("limit()", 14, silo.limit());
        due("sold()", 0, silo.sold());
        due("spoilt()", 0, silo.spoilt());
        due("doubt()", 0, silo.doubt());
        due("dampLayers()", 0, silo.dampLayers());
        due("surelyDry()", 0, silo.surelyDry());
        due("surelyDamp()", 0, silo.surelyDamp());
        due("meanDampness()", 0.0, silo.meanDampness());
        due("daysUntilEven()", 0, silo.daysUntilEven());
        silo.fill(1, 1);
        due("layers() of another object", 0, new GrainSilo().layers());
    }

    private void promise2Fill() {
        GrainSilo silo = new GrainSilo();
        due("fill(0, 0)", 0, silo.fill(0, 0));
        due("fill(4, 40)", 1, silo.fill(4, 40));
        due("fill(2, 17)", 2, silo.fill(2, 17));
        dueDampness("filled", silo, 0, 40, 17);
        due("kindOf(0)", 0, silo.kindOf(0));
        due("kindOf(1)", 4, silo.kindOf(1));
        due("kindOf(2)", 2, silo.kindOf(2));
        for (int wrong : new int[] {-1, 5, LOWEST, HIGHEST}) {
            dueThrow("fill(" + wrong + ", 3)", ARGUMENT, silo, () -> silo.fill(wrong, 3));
        }
        for (int wrong : new int[] {-1, 41, LOWEST, HIGHEST}) {
            dueThrow("fill(3, " + wrong + ")", ARGUMENT, silo, () -> silo.fill(3, wrong));
        }
        silo.letOut();
        due("fill(3, 3) behind letOut()", 2, silo.fill(3, 3));
    }

    private void promise2FillWhenFull() {
        GrainSilo silo = silo(1, 2, 3, 4, 5, 6, 7, 8, 9, 10, 11);
        due("fill of the 12th", 11, silo.fill(1, 12));
        dueThrow("fill(0, 0) of the 13th", STATE, silo, () -> silo.fill(0, 0));
        dueThrow("fill(5, 0) of the 13th", ARGUMENT, silo, () -> silo.fill(5, 0));
        dueThrow("fill(0, 41) of the 13th", ARGUMENT, silo, () -> silo.fill(0, 41));
        silo.letOut();
        due("fill with room again", 11, silo.fill(1, 12));
    }

    private void promise3LetOut() {
        GrainSilo silo = silo(14, 15, 0, 40);
        due("letOut() at the limit", 14, silo.letOut());
        due("sold()", 1, silo.sold());
        due("spoilt()", 0, silo.spoilt());
        dueDampness("behind letOut()", silo, 15, 0, 40);
        due("kindOf(0)", 1, silo.kindOf(0));
        due("kindOf(2)", 3, silo.kindOf(2));
        due("letOut() above the limit", 15, silo.letOut());
        due("sold()", 1, silo.sold());
        due("spoilt()", 1, silo.spoilt());
        silo.setLimit(40);
        due("letOut()", 0, silo.letOut());
        due("letOut() of the last", 40, silo.letOut());
        due("sold()", 3, silo.sold());
        due("spoilt()", 1, silo.spoilt());
        due("layers()", 0, silo.layers());
        dueThrow("letOut() of none", STATE, silo, silo::letOut);
        GrainSilo empty = new GrainSilo();
        dueThrow("letOut() of a new one", STATE, empty, empty::letOut);
    }

    private void promise3LetOutOfSamples() {
        GrainSilo silo = silo(10, 20, 30);
        silo.draw(1, 2);
        silo.draw(0, 0);
        silo.draw(0, 2);
        silo.draw(2, 2);
        silo.pass(1);
        dueDampness("a day later", silo, 11, 20, 29);
        silo.draw(0, 0);
        due("letOut()", 11, silo.letOut());
        due("samples()", 3, silo.samples());
        dueSample("not of it", silo, 0, 0, 1, 50, 2);
        dueSample("cut", silo, 1, 0, 1, 49, 3);
        dueSample("not of it", silo, 2, 1, 1, 30, 1);
        silo.pass(2);
        dueSample("cut, two days later", silo, 1, 0, 1, 49, 7);
        due("letOut()", 22, silo.letOut());
        dueSample("cut", silo, 0, 0, 0, 28, 6);
        dueSample("cut again", silo, 1, 0, 0, 27, 7);
        dueSample("not of it", silo, 2, 0, 0, 30, 3);
        due("letOut()", 27, silo.letOut());
        due("samples()", 0, silo.samples());
    }

    private void promise3SumBelowNothing() {
        GrainSilo silo = silo(0, 0);
        silo.draw(0, 1);
        silo.fill(0, 40);
        silo.pass(3);
        dueDampness("three days later", silo, 1, 2, 37);
        due("letOut()", 1, silo.letOut());
        dueSample("cut", silo, 0, 0, 0, -1, 6);
        dueRange("cut", silo, 0, 0, 5);
    }

    private void promise4TurnOver() {
        GrainSilo silo = silo(10, 20, 30);
        silo.draw(0, 0);
        silo.draw(1, 2);
        silo.draw(0, 1);
        silo.draw(2, 2);
        silo.draw(0, 2);
        silo.pass(1);
        due("turnOver()", 3, silo.turnOver());
        dueDampness("turned", silo, 20, 29, 11);
        due("kindOf(0)", 1, silo.kindOf(0));
        due("kindOf(1)", 2, silo.kindOf(1));
        due("kindOf(2)", 0, silo.kindOf(2));
        due("samples()", 2, silo.samples());
        dueSample("turned", silo, 0, 0, 1, 50, 2);
        dueSample("turned", silo, 1, 1, 1, 30, 1);
        due("sold()", 0, silo.sold());
        due("spoilt()", 0, silo.spoilt());
        due("day()", 1, silo.day());
        due("turnOver()", 1, silo.turnOver());
        due("turnOver()", 1, silo.turnOver());
        due("turnOver() without samples", 0, silo.turnOver());
        GrainSilo full = fullSilo();
        due("turnOver() of 12", 0, full.turnOver());
        dueDampness("turned", full, 2, 3, 4, 5, 6, 7, 8, 9, 10, 11, 12, 1);
        GrainSilo two = silo(5, 6);
        due("turnOver() of two", 0, two.turnOver());
        dueDampness("turned", two, 6, 5);
        GrainSilo one = silo(5);
        one.draw(0, 0);
        dueThrow("turnOver() of one", STATE, one, one::turnOver);
        GrainSilo none = new GrainSilo();
        dueThrow("turnOver() of none", STATE, none, none::turnOver);
    }

    private void promise5SetLimit() {
        GrainSilo silo = silo(20);
        due("setLimit(0)", 14, silo.setLimit(0));
        due("limit()", 0, silo.limit());
        due("setLimit(40)", 0, silo.setLimit(40));
        due("limit()", 40, silo.limit());
        due("setLimit(20)", 40, silo.setLimit(20));
        due("setLimit(20)", 20, silo.setLimit(20));
        for (int wrong : new int[] {-1, 41, LOWEST, HIGHEST}) {
            dueThrow("setLimit(" + wrong + ")", ARGUMENT, silo, () -> silo.setLimit(wrong));
        }
    }

    private void promise6Pass() {
        GrainSilo silo = silo(40, 0);
        due("pass(3)", 6, silo.pass(3));
        dueDampness("then", silo, 37, 3);
        due("day()", 3, silo.day());
        due("pass(50)", 34, silo.pass(50));
        dueDampness("then", silo, 20, 20);
        due("day()", 53, silo.day());
        due("pass(1) of an even one", 0, silo.pass(1));
        due("day()", 54, silo.day());
        for (int wrong : new int[] {0, 51, -1, LOWEST, HIGHEST}) {
            dueThrow("pass(" + wrong + ")", ARGUMENT, silo, () -> silo.pass(wrong));
        }
        GrainSilo none = new GrainSilo();
        due("pass(50) without layers", 0, none.pass(50));
        due("day()", 50, none.day());
        GrainSilo one = silo(40);
        due("pass(50) of one layer", 0, one.pass(50));
        dueDampness("then", one, 40);
    }

    private void promise6DayByDay() {
        duePass(new int[] {5, 6}, 5, 6);
        duePass(new int[] {5, 7}, 6, 6);
        duePass(new int[] {7, 5}, 6, 6);
        duePass(new int[] {0, 2, 4}, 1, 2, 3);
        duePass(new int[] {9, 0, 9}, 8, 1, 8);
        duePass(new int[] {0, 9, 0}, 1, 8, 1);
        duePass(new int[] {5, 6, 9}, 5, 7, 8);
        duePass(new int[] {9, 6, 5}, 8, 7, 5);
        duePass(new int[] {12, 20, 8, 31, 14}, 13, 19, 9, 30, 15);
        duePass(new int[] {0, 0, 0, 0, 0, 0, 0, 0, 0, 0, 0, 40}, 0, 0, 0, 0, 0, 0, 0, 0, 0, 0, 1, 39);
        duePass(new int[] {40, 0, 0, 0, 0, 0, 0, 0, 0, 0, 0, 0}, 39, 1, 0, 0, 0, 0, 0, 0, 0, 0, 0, 0);
    }

    private void duePass(int[] before, int... then) {
        GrainSilo silo = silo(before);
        int changes = 0;
        for (int layer = 0; layer < then.length; layer++) {
            changes += before[layer] == then[layer] ? 0 : 1;
        }
        due("pass(1)", changes, silo.pass(1));
        dueDampness("a day later", silo, then);
    }

    private void promise6Doubt() {
        GrainSilo silo = silo(5, 5, 5, 5);
        silo.draw(0, 3);
        silo.draw(2, 2);
        silo.pass(1);
        due("doubtOf(0)", 4, silo.doubtOf(0));
        due("doubtOf(1)", 1, silo.doubtOf(1));
        silo.draw(1, 2);
        silo.pass(50);
        due("doubtOf(0)", 204, silo.doubtOf(0));
        due("doubtOf(1)", 51, silo.doubtOf(1));
        due("doubtOf(2)", 100, silo.doubtOf(2));
        due("sumOf(0)", 20, silo.sumOf(0));
    }

    // ---- samples

    private void promise7Draw() {
        GrainSilo silo = silo(12, 20, 8, 31, 14);
        due("draw(0, 2)", 40, silo.draw(0, 2));
        due("draw(1, 3)", 59, silo.draw(1, 3));
        due("draw(4, 4)", 14, silo.draw(4, 4));
        due("draw(0, 4)", 85, silo.draw(0, 4));
        due("draw(0, 4) again", 85, silo.draw(0, 4));
        due("samples()", 5, silo.samples());
        dueSample("drawn", silo, 0, 0, 2, 40, 0);
        dueSample("drawn", silo, 1, 1, 3, 59, 0);
        dueSample("drawn", silo, 2, 4, 4, 14, 0);
        dueSample("drawn", silo, 3, 0, 4, 85, 0);
        dueSample("drawn", silo, 4, 0, 4, 85, 0);
        silo.pass(1);
        due("draw(0, 1) a day later", 32, silo.draw(0, 1));
        dueSample("drawn a day later", silo, 5, 0, 1, 32, 0);
        due("draw(0, 11) of 12", 78, fullSilo().draw(0, 11));
        dueThrowsOfLayers("draw", (two, from, to) -> two.draw(from, to));
    }

    private void promise7DrawTooMany() {
        GrainSilo silo = silo(3, 4);
        for (int i = 0; i < 16; i++) {
            due("draw of sample " + i, 3 + 4 * (i % 2), silo.draw(0, i % 2));
        }
        due("samples()", 16, silo.samples());
        dueThrow("draw(0, 0) of the 17th", STATE, silo, () -> silo.draw(0, 0));
        dueThrow("draw(0, 2) of the 17th", INDEX, silo, () -> silo.draw(0, 2));
        dueThrow("draw(1, 0) of the 17th", INDEX, silo, () -> silo.draw(1, 0));
        dueSample("the last", silo, 15, 0, 1, 7, 0);
        silo.pass(2);
        dueSample("the last, two days later", silo, 15, 0, 1, 7, 4);
        silo.throwAway(3);
        due("draw with room again", 4, silo.draw(1, 1));
        dueSample("the last", silo, 15, 1, 1, 4, 0);
        due("turnOver() of 16 samples", 15, silo.turnOver());
        dueSample("turned", silo, 0, 0, 0, 4, 0);
        due("turnOver() of one sample", 1, silo.turnOver());
    }

    private void promise3LetOutOfSixteen() {
        GrainSilo silo = silo(3, 4);
        for (int i = 0; i < 16; i++) {
            silo.draw(0, i % 2);
        }
        due("letOut()", 3, silo.letOut());
        due("samples()", 8, silo.samples());
        dueSample("cut", silo, 0, 0, 0, 4, 0);
        dueSample("cut", silo, 7, 0, 0, 4, 0);
        GrainSilo kept = silo(3, 4, 5);
        for (int i = 0; i < 16; i++) {
            kept.draw(1, 2);
        }
        due("letOut()", 3, kept.letOut());
        due("samples(), all kept", 16, kept.samples());
        dueSample("the last", kept, 15, 0, 1, 9, 0);
    }

    private void promise8ThrowAway() {
        GrainSilo silo = silo(1, 2, 3);
        silo.draw(0, 0);
        silo.pass(2);
        silo.draw(1, 2);
        silo.pass(1);
        silo.draw(2, 2);
        due("throwAway(1)", 2, silo.throwAway(1));
        dueSample("kept", silo, 0, 0, 0, 1, 3);
        dueSample("moved", silo, 1, 2, 2, silo.dampnessOf(2), 0);
        due("throwAway(0)", 1, silo.throwAway(0));
        dueSample("moved", silo, 0, 2, 2, silo.dampnessOf(2), 0);
        due("throwAway(0) of the last", 0, silo.throwAway(0));
        due("doubt()", 120, silo.doubt());
        GrainSilo many = silo(7);
        for (int i = 0; i < 16; i++) {
            many.draw(0, 0);
        }
        due("throwAway(15) of 16", 15, many.throwAway(15));
        due("throwAway(0) of 15", 14, many.throwAway(0));
        dueThrowsOfSample("throwAway", GrainSilo::throwAway);
    }

    private void promise9Samples() {
        GrainSilo silo = silo(1, 2);
        due("samples()", 0, silo.samples());
        silo.draw(0, 1);
        due("samples()", 1, silo.samples());
        silo.draw(0, 1);
        silo.pass(5);
        due("samples()", 2, silo.samples());
    }

    private void promises10To13OfSample() {
        GrainSilo silo = silo(1, 2, 3, 4);
        silo.draw(1, 3);
        silo.draw(0, 1);
        dueSample("drawn", silo, 0, 1, 3, 9, 0);
        dueSample("drawn", silo, 1, 0, 1, 3, 0);
        silo.pass(2);
        dueSample("two days later", silo, 0, 1, 3, 9, 6);
        dueSample("two days later", silo, 1, 0, 1, 3, 4);
        dueThrowsOfSample("lowestOf", GrainSilo::lowestOf);
        dueThrowsOfSample("highestOf", GrainSilo::highestOf);
        dueThrowsOfSample("sumOf", GrainSilo::sumOf);
        dueThrowsOfSample("doubtOf", GrainSilo::doubtOf);
    }

    // ---- what there is

    private void promises14To18() {
        GrainSilo silo = silo(14, 15, 16);
        due("layers()", 3, silo.layers());
        silo.pass(7);
        due("day()", 7, silo.day());
        due("limit()", 14, silo.limit());
        silo.setLimit(15);
        due("limit()", 15, silo.limit());
        silo.letOut();
        silo.letOut();
        due("sold()", 2, silo.sold());
        due("spoilt()", 0, silo.spoilt());
        silo.letOut();
        due("sold()", 2, silo.sold());
        due("spoilt()", 1, silo.spoilt());
        due("layers()", 0, silo.layers());
        due("day()", 7, silo.day());
        due("layers() of 12", 12, fullSilo().layers());
    }

    private void promises19And20() {
        GrainSilo full = fullSilo();
        due("kindOf(0)", 0, full.kindOf(0));
        due("kindOf(9)", 4, full.kindOf(9));
        due("kindOf(11)", 1, full.kindOf(11));
        due("dampnessOf(0)", 1, full.dampnessOf(0));
        due("dampnessOf(11)", 12, full.dampnessOf(11));
        dueThrowsOfLayer("kindOf", GrainSilo::kindOf);
        dueThrowsOfLayer("dampnessOf", GrainSilo::dampnessOf);
    }

    private void promise21DampLayers() {
        GrainSilo silo = silo(13, 14, 15, 40, 0);
        due("dampLayers()", 2, silo.dampLayers());
        silo.setLimit(0);
        due("dampLayers()", 4, silo.dampLayers());
        silo.setLimit(40);
        due("dampLayers()", 0, silo.dampLayers());
        GrainSilo out = silo(40, 40);
        out.letOut();
        due("dampLayers() of one", 1, out.dampLayers());
        out.letOut();
        due("dampLayers() of none", 0, out.dampLayers());
        GrainSilo full = fullSilo();
        full.setLimit(9);
        due("dampLayers() of 12", 3, full.dampLayers());
    }

    private void promise22LayersAheadOf() {
        GrainSilo silo = new GrainSilo();
        due("layersAheadOf(0) of none", -1, silo.layersAheadOf(0));
        silo.fill(3, 1);
        silo.fill(4, 1);
        silo.fill(3, 1);
        silo.fill(0, 1);
        due("layersAheadOf(3)", 0, silo.layersAheadOf(3));
        due("layersAheadOf(4)", 1, silo.layersAheadOf(4));
        due("layersAheadOf(0)", 3, silo.layersAheadOf(0));
        due("layersAheadOf(2)", -1, silo.layersAheadOf(2));
        silo.letOut();
        due("layersAheadOf(3) behind letOut()", 1, silo.layersAheadOf(3));
        silo.turnOver();
        due("layersAheadOf(4) behind turnOver()", 2, silo.layersAheadOf(4));
        for (int wrong : new int[] {-1, 5, LOWEST, HIGHEST}) {
            dueThrow("layersAheadOf(" + wrong + ")", INDEX, silo, () -> silo.layersAheadOf(wrong));
        }
        GrainSilo none = new GrainSilo();
        dueThrow("layersAheadOf(5) of none", INDEX, none, () -> none.layersAheadOf(5));
    }

    // ---- what could be

    private void promises23And24() {
        GrainSilo silo = silo(12, 20, 8, 31, 14);
        dueRange("without samples", silo, 0, 0, 40);
        dueRange("without samples", silo, 4, 0, 40);
        silo.draw(0, 2);
        dueRange("of 40 in three", silo, 1, 0, 40);
        silo.draw(1, 3);
        dueRange("by both", silo, 0, 0, 21);
        dueRange("by both", silo, 1, 0, 40);
        dueRange("by both", silo, 2, 0, 40);
        dueRange("by both", silo, 3, 19, 40);
        dueRange("of none", silo, 4, 0, 40);
        silo.draw(2, 2);
        dueRange("known", silo, 2, 8, 8);
        dueRange("by all", silo, 0, 0, 21);
        dueRange("by all", silo, 1, 11, 32);
        dueRange("by all", silo, 3, 19, 40);
        GrainSilo ends = silo(40, 40, 0, 0);
        ends.draw(0, 1);
        ends.draw(2, 3);
        for (int layer = 0; layer < 4; layer++) {
            dueRange("at an end", ends, layer, layer < 2 ? 40 : 0, layer < 2 ? 40 : 0);
        }
        dueThrowsOfLayer("leastOf", GrainSilo::leastOf);
        dueThrowsOfLayer("greatestOf", GrainSilo::greatestOf);
    }

    private void promises23And24ByDoubt() {
        GrainSilo silo = silo(10, 10);
        silo.draw(0, 0);
        silo.pass(3);
        dueRange("doubtful", silo, 0, 7, 13);
        silo.draw(0, 1);
        dueRange("as told by two", silo, 1, 7, 13);
        silo.pass(8);
        dueRange("more doubtful", silo, 0, 0, 21);
        dueRange("more doubtful", silo, 1, 0, 36);
        silo.draw(1, 1);
        dueRange("by three", silo, 0, 0, 21);
        dueRange("by three", silo, 1, 10, 10);
        GrainSilo damp = silo(38);
        damp.draw(0, 0);
        damp.pass(5);
        dueRange("no damper than 40", damp, 0, 33, 40);
    }

    private void promise25IsKnown() {
        GrainSilo silo = silo(10, 20, 30);
        due("isKnown(0)", false, silo.isKnown(0));
        silo.draw(0, 2);
        silo.draw(1, 2);
        due("isKnown(0) by others", true, silo.isKnown(0));
        due("isKnown(1)", false, silo.isKnown(1));
        silo.draw(1, 1);
        due("isKnown(1)", true, silo.isKnown(1));
        due("isKnown(2)", true, silo.isKnown(2));
        silo.pass(1);
        due("isKnown(1) a day later", false, silo.isKnown(1));
        dueThrowsOfLayer("isKnown", GrainSilo::isKnown);
    }

    private void promises26And27() {
        GrainSilo silo = silo(13, 14, 15, 16);
        due("surelyDry()", 0, silo.surelyDry());
        due("surelyDamp()", 0, silo.surelyDamp());
        for (int layer = 0; layer < 4; layer++) {
            silo.draw(layer, layer);
        }
        due("surelyDry()", 2, silo.surelyDry());
        due("surelyDamp()", 2, silo.surelyDamp());
        silo.setLimit(15);
        due("surelyDry()", 3, silo.surelyDry());
        due("surelyDamp()", 1, silo.surelyDamp());
        silo.pass(1);
        due("surelyDry() a day later", 2, silo.surelyDry());
        due("surelyDamp() a day later", 0, silo.surelyDamp());
        silo.setLimit(12);
        due("surelyDry()", 0, silo.surelyDry());
        due("surelyDamp()", 3, silo.surelyDamp());
        GrainSilo unknown = silo(5, 5);
        unknown.setLimit(40);
        due("surelyDry() of a limit of 40", 2, unknown.surelyDry());
        unknown.setLimit(0);
        due("surelyDamp() of a limit of 0", 0, unknown.surelyDamp());
        due("surelyDry() of a limit of 0", 0, unknown.surelyDry());
    }

    private void promise28WorstLayer() {
        GrainSilo silo = silo(10, 30, 30, 20);
        due("worstLayer() of equals", 0, silo.worstLayer());
        for (int layer = 0; layer < 4; layer++) {
            silo.draw(layer, layer);
        }
        due("worstLayer() of known ones", 1, silo.worstLayer());
        silo.throwAway(3);
        due("worstLayer(), the last unknown", 3, silo.worstLayer());
        GrainSilo one = silo(0);
        one.draw(0, 0);
        due("worstLayer() of one", 0, one.worstLayer());
        GrainSilo none = new GrainSilo();
        dueThrow("worstLayer() of none", STATE, none, none::worstLayer);
    }

    private void promise29Doubt() {
        GrainSilo silo = silo(10, 30);
        due("doubt()", 80, silo.doubt());
        silo.draw(0, 1);
        due("doubt() by a sum of 40", 80, silo.doubt());
        silo.draw(0, 0);
        due("doubt() of known ones", 0, silo.doubt());
        silo.pass(1);
        due("doubt() a day later", 8, silo.doubt());
        due("doubt() of 12", 480, fullSilo().doubt());
    }

    private void promises30And31() {
        GrainSilo silo = silo(12, 20, 8, 31, 14);
        due("leastSum(0, 4)", 0, silo.leastSum(0, 4));
        due("greatestSum(0, 4)", 200, silo.greatestSum(0, 4));
        silo.draw(0, 2);
        silo.draw(1, 3);
        silo.draw(2, 2);
        due("leastSum(0, 1)", 32, silo.leastSum(0, 1));
        due("greatestSum(0, 1)", 32, silo.greatestSum(0, 1));
        due("leastSum(3, 4)", 19, silo.leastSum(3, 4));
        due("greatestSum(3, 4)", 80, silo.greatestSum(3, 4));
        due("leastSum(0, 3)", 59, silo.leastSum(0, 3));
        due("greatestSum(0, 3)", 80, silo.greatestSum(0, 3));
        due("leastSum(2, 2)", 8, silo.leastSum(2, 2));
        due("greatestSum(1, 1)", 32, silo.greatestSum(1, 1));
        silo.pass(1);
        due("leastSum(0, 2) a day later", 37, silo.leastSum(0, 2));
        due("greatestSum(0, 2) a day later", 43, silo.greatestSum(0, 2));
        dueThrowsOfLayers("leastSum", GrainSilo::leastSum);
        dueThrowsOfLayers("greatestSum", GrainSilo::greatestSum);
    }

    // ---- what would be

    private void promise32DoubtBehind() {
        GrainSilo silo = silo(10, 30);
        due("doubtBehind(0, 0)", 40, silo.doubtBehind(0, 0));
        due("doubtBehind(0, 1)", 80, silo.doubtBehind(0, 1));
        silo.draw(0, 1);
        long before = silo.digest();
        due("doubtBehind(0, 0)", 0, silo.doubtBehind(0, 0));
        due("doubtBehind(1, 1)", 0, silo.doubtBehind(1, 1));
        due("doubtBehind(0, 1)", 80, silo.doubtBehind(0, 1));
        due("digest() behind doubtBehind", before, silo.digest());
        silo.pass(2);
        due("doubtBehind(1, 1) two days later", 8, silo.doubtBehind(1, 1));
        GrainSilo full = silo(3, 4);
        for (int i = 0; i < 16; i++) {
            full.draw(0, 0);
        }
        due("doubtBehind(1, 1) of 16 samples", 0, full.doubtBehind(1, 1));
        due("doubtBehind(0, 1) of 16 samples", 0, full.doubtBehind(0, 1));
        due("doubt() of 16 samples", 40, full.doubt());
        due("samples()", 16, full.samples());
        GrainSilo dry = silo(0, 0, 5);
        due("doubtBehind(0, 1) of a sum of 0", 40, dry.doubtBehind(0, 1));
        due("doubtBehind(0, 2) of a sum of 5", 15, dry.doubtBehind(0, 2));
        dueThrowsOfLayers("doubtBehind", GrainSilo::doubtBehind);
    }

    private void promise33BestToLookAt() {
        GrainSilo silo = silo(12, 20, 8, 31, 14);
        due("bestToLookAt() of equals", 0, silo.bestToLookAt());
        silo.draw(0, 0);
        due("bestToLookAt(), the first known", 1, silo.bestToLookAt());
        silo.draw(2, 3);
        long before = silo.digest();
        due("bestToLookAt(), which tells two of a sum of 39", 2, silo.bestToLookAt());
        due("digest() behind bestToLookAt", before, silo.digest());
        silo.draw(3, 3);
        due("bestToLookAt() of two unknown", 1, silo.bestToLookAt());
        GrainSilo pair = silo(5, 20, 20);
        pair.draw(1, 2);
        due("bestToLookAt(), which tells two", 1, pair.bestToLookAt());
        GrainSilo full = silo(3, 4);
        for (int i = 0; i < 16; i++) {
            full.draw(0, 0);
        }
        due("bestToLookAt() of 16 samples", 1, full.bestToLookAt());
        due("samples()", 16, full.samples());
        due("bestToLookAt() of one", 0, silo(7).bestToLookAt());
        GrainSilo none = new GrainSilo();
        dueThrow("bestToLookAt() of none", STATE, none, none::bestToLookAt);
    }

    private void promise33BestOfTwelve() {
        GrainSilo full = fullSilo();
        for (int layer = 0; layer < 11; layer++) {
            full.draw(layer, layer);
        }
        due("bestToLookAt() of 12", 11, full.bestToLookAt());
        due("worstLayer() of 12", 11, full.worstLayer());
        full.draw(11, 11);
        due("bestToLookAt() of 12 known ones", 0, full.bestToLookAt());
        due("worstLayer() of 12 known ones", 11, full.worstLayer());
        due("surelyDry() of 12", 12, full.surelyDry());
    }

    private static GrainSilo drawnOf(int dampness) {
        GrainSilo silo = silo(dampness, 3);
        silo.draw(0, 0);
        return silo;
    }

    /** The first call behind a drawing or a day has to see it, whatever was asked before. */
    private void eachSeesWhatIsDrawn() {
        due("leastOf(0)", 20, drawnOf(20).leastOf(0));
        due("greatestOf(0)", 20, drawnOf(20).greatestOf(0));
        due("isKnown(0)", true, drawnOf(20).isKnown(0));
        due("isKnown(1)", false, drawnOf(20).isKnown(1));
        due("surelyDry()", 1, drawnOf(14).surelyDry());
        due("surelyDamp()", 1, drawnOf(15).surelyDamp());
        due("worstLayer()", 1, drawnOf(20).worstLayer());
        due("doubt()", 40, drawnOf(20).doubt());
        due("leastSum(0, 1)", 20, drawnOf(20).leastSum(0, 1));
        due("greatestSum(0, 1)", 60, drawnOf(20).greatestSum(0, 1));
        due("doubtBehind(0, 0)", 40, drawnOf(20).doubtBehind(0, 0));
        due("bestToLookAt()", 1, drawnOf(20).bestToLookAt());
        GrainSilo silo = drawnOf(20);
        due("doubt()", 40, silo.doubt());
        silo.draw(1, 1);
        due("isKnown(1)", true, silo.isKnown(1));
        silo.throwAway(0);
        due("worstLayer()", 0, silo.worstLayer());
        silo.turnOver();
        due("surelyDry()", 1, silo.surelyDry());
        silo.fill(0, 9);
        due("doubt()", 80, silo.doubt());
        silo.letOut();
        due("surelyDry()", 0, silo.surelyDry());
    }

    private void promise34DampnessIn() {
        GrainSilo silo = silo(40, 0);
        silo.draw(0, 1);
        long before = silo.digest();
        due("dampnessIn(0, 1)", 39, silo.dampnessIn(0, 1));
        due("dampnessIn(1, 19)", 19, silo.dampnessIn(1, 19));
        due("dampnessIn(1, 20)", 20, silo.dampnessIn(1, 20));
        due("dampnessIn(0, 50)", 20, silo.dampnessIn(0, 50));
        due("digest() behind dampnessIn", before, silo.digest());
        GrainSilo full = silo(40, 40, 40, 40, 40, 40, 40, 40, 40, 40, 40, 0);
        int foreseen = full.dampnessIn(11, 50);
        full.pass(50);
        due("dampnessOf(11) as foreseen", foreseen, full.dampnessOf(11));
        for (int wrong : new int[] {0, 51, -1, LOWEST, HIGHEST}) {
            dueThrow("dampnessIn(0, " + wrong + ")", ARGUMENT, silo, () -> silo.dampnessIn(0, wrong));
            dueThrow("dampnessIn(2, " + wrong + ")", INDEX, silo, () -> silo.dampnessIn(2, wrong));
        }
        dueThrowsOfLayer("dampnessIn of days 1", (any, layer) -> any.dampnessIn(layer, 1));
    }

    private void promise35DaysUntilEven() {
        due("daysUntilEven() of none", 0, new GrainSilo().daysUntilEven());
        due("daysUntilEven() of one", 0, silo(40).daysUntilEven());
        due("daysUntilEven() of 5, 6", 0, silo(5, 6).daysUntilEven());
        due("daysUntilEven() of 5, 7", 1, silo(5, 7).daysUntilEven());
        due("daysUntilEven() of 0, 1, 2", 0, silo(0, 1, 2).daysUntilEven());
        GrainSilo silo = silo(40, 0);
        silo.draw(0, 1);
        long before = silo.digest();
        due("daysUntilEven() of 40, 0", 20, silo.daysUntilEven());
        due("digest() behind daysUntilEven", before, silo.digest());
        silo.pass(19);
        due("daysUntilEven() 19 days later", 1, silo.daysUntilEven());
        silo.pass(1);
        due("daysUntilEven() 20 days later", 0, silo.daysUntilEven());
        dueLongestKnown();
    }

    /** No 12 layers are known that take as many as 200 days: these take the most that a long search has found. */
    private void dueLongestKnown() {
        GrainSilo silo = Silos.longestKnown();
        due("daysUntilEven() of the longest known", 118, silo.daysUntilEven());
        silo.pass(50);
        silo.pass(50);
        due("daysUntilEven() 100 days later", 18, silo.daysUntilEven());
        silo.pass(17);
        due("pass(1) of the last uneven day", true, silo.pass(1) > 0);
        due("pass(1) of the first even day", 0, silo.pass(1));
    }

    /** No dampness up to 40 is known to reach the bound, so that one that cannot be is written into the silo. */
    private void promise35AtItsBound() {
        due("daysUntilEven() of 398, 0", 199, Silos.overDamp(398).daysUntilEven());
        due("daysUntilEven() of 400, 0", 200, Silos.overDamp(400).daysUntilEven());
        due("daysUntilEven() of 401, 0", 200, Silos.overDamp(401).daysUntilEven());
        due("daysUntilEven() of 402, 0", -1, Silos.overDamp(402).daysUntilEven());
        due("daysUntilEven() of 4000, 0", -1, Silos.overDamp(4000).daysUntilEven());
    }

    private void promise36MeanDampness() {
        due("meanDampness() of none", 0.0, new GrainSilo().meanDampness());
        due("meanDampness() of 5, 6", 5.5, silo(5, 6).meanDampness());
        due("meanDampness() of 0, 0, 1", 1.0 / 3.0, silo(0, 0, 1).meanDampness());
        due("meanDampness() of 12", 6.5, fullSilo().meanDampness());
        GrainSilo silo = silo(40, 0, 5);
        silo.letOut();
        due("meanDampness() behind letOut()", 2.5, silo.meanDampness());
        silo.letOut();
        silo.letOut();
        due("meanDampness() of none again", 0.0, silo.meanDampness());
    }

    private static long digestOf(int... numbers) {
        long d = 1907;
        for (int x : numbers) {
            d = d * 31 + x;
        }
        return d;
    }

    private void promise37Digest() {
        GrainSilo silo = new GrainSilo();
        due("digest() of a new one", digestOf(0, 0, 0, 14, 0, 0, 0, 0, 0), silo.digest());
        due("digest() of a new one", 50420359861207711L, silo.digest());
        silo.fill(3, 10);
        due("digest() of a layer", digestOf(1, 0, 0, 14, 0, 0, 40, 0, 0, 3, 10, 0, 40), silo.digest());
        silo.draw(0, 0);
        due("digest() of a sample", digestOf(1, 1, 0, 14, 0, 0, 0, 1, 0, 3, 10, 10, 10, 0, 0, 10, 0), silo.digest());
        silo.pass(2);
        due("digest() two days later",
                digestOf(1, 1, 2, 14, 0, 0, 4, 1, 0, 3, 10, 8, 12, 0, 0, 10, 2), silo.digest());
    }

    private void promise37DigestOfAll() {
        GrainSilo silo = silo(10, 20, 30, 25);
        silo.letOut();
        silo.letOut();
        silo.draw(1, 1);
        silo.draw(0, 1);
        silo.pass(1);
        silo.setLimit(9);
        due("digest() of all",
                digestOf(2, 2, 1, 9, 1, 1, 8, 0, 2, 2, 29, 27, 33, 3, 26, 24, 26, 1, 1, 25, 1, 0, 1, 55, 2),
                silo.digest());
    }
}
