import java.math.BigInteger;
import java.util.ArrayList;
import java.util.List;

/** The sentences of promises 32 to 37. */
final class WouldBeSentences extends Sentences {

    // ---- promise 32: doubtBehind

    @Sentence(of = "Promise 32",
            says = "from: the lowest layer of some - to: the highest one Returns the doubt of the silo, if a "
            + "sample of them was drawn now,")
    void promise32ReturnsTheDoubtIfASampleWasDrawn() {
        due("doubtBehind(0, 0) of one", 0, Silos.of(7).doubtBehind(0, 0));
        due("doubtBehind(0, 11), 480 in twelve", 0, Silos.alike(12, 40).doubtBehind(0, 11));
        due("doubtBehind(0, 11), 0 in twelve", 0, Silos.alike(12, 0).doubtBehind(0, 11));
        due("doubtBehind(0, 0) of twelve", 440, Silos.twelve().doubtBehind(0, 0));
        due("doubtBehind(11, 11) of twelve", 440, Silos.twelve().doubtBehind(11, 11));
        GrainSilo silo = Silos.of(10, 30, 1);
        due("doubtBehind(0, 1), 40 in two", 120, silo.doubtBehind(0, 1));
        due("doubtBehind(1, 2), 31 in two", 102, silo.doubtBehind(1, 2));
        due("doubtBehind(0, 2), 41 in three", 120, silo.doubtBehind(0, 2));
        silo.draw(0, 1);
        due("doubtBehind(0, 0), which tells the other one too", 40, silo.doubtBehind(0, 0));
        due("doubtBehind(1, 1), which tells the other one too", 40, silo.doubtBehind(1, 1));
        due("doubtBehind(0, 1) once more", 120, silo.doubtBehind(0, 1));
        due("doubtBehind(0, 2), which tells the third", 80, silo.doubtBehind(0, 2));
        GrainSilo known = Silos.looked(10, 30);
        due("doubtBehind(0, 1) of known ones", 0, known.doubtBehind(0, 1));
        known.pass(2);
        due("doubtBehind(0, 0), two days later", 4, known.doubtBehind(0, 0));
    }

    @Sentence(of = "Promise 32", says = "whether there are 16 or not")
    void promise32WhetherThereAre16OrNot() {
        GrainSilo silo = Silos.of(3, 4, 20);
        due("doubtBehind(1, 1) of no samples", 80, silo.doubtBehind(1, 1));
        for (int sample = 0; sample < 15; sample++) {
            silo.draw(0, 0);
        }
        due("doubtBehind(1, 1) of fifteen samples", 40, silo.doubtBehind(1, 1));
        silo.draw(0, 0);
        due("doubtBehind(1, 1) of sixteen samples", 40, silo.doubtBehind(1, 1));
        due("doubtBehind(0, 1) of sixteen samples", 40, silo.doubtBehind(0, 1));
        due("doubtBehind(0, 0) of sixteen samples", 80, silo.doubtBehind(0, 0));
        due("doubtBehind(0, 2) of sixteen samples, 24 in two", 48, silo.doubtBehind(0, 2));
        due("samples()", 16, silo.samples());
    }

    @Sentence(of = "Promise 32", says = "(nothing is changed).")
    void promise32NothingIsChanged() {
        int[][] layers = {{0, 0}, {11, 11}, {0, 11}, {4, 9}};
        for (int[] l : layers) {
            String call = "doubtBehind(" + l[0] + ", " + l[1] + ")";
            dueNothingChanged(call, Silos::full, silo -> silo.doubtBehind(l[0], l[1]));
            dueNothingChanged(call, Silos::twelve, silo -> silo.doubtBehind(l[0], l[1]));
        }
        dueNothingChanged("doubtBehind(0, 4)", Silos::busy, silo -> silo.doubtBehind(0, 4));
        dueNothingChanged("doubtBehind(0, 0)", Silos::one, silo -> silo.doubtBehind(0, 0));
    }

    @Sentence(of = "Promise 32",
            says = "Throws IndexOutOfBoundsException if there are no such layers, or from is greater than to")
    void promise32ThrowsIfThereAreNoSuchLayers() {
        dueRefusedOfNoLayers("doubtBehind", GrainSilo::doubtBehind);
    }

    // ---- promise 33: bestToLookAt

    @Sentence(of = "Promise 33",
            says = "Returns the layer that had best be looked at: of which a sample alone, drawn now, would "
            + "leave the least doubt of the silo,")
    void promise33ReturnsTheOneThatWouldLeaveTheLeastDoubt() {
        due("bestToLookAt() of one", 0, Silos.of(7).bestToLookAt());
        GrainSilo last = Silos.twelve();
        for (int layer = 0; layer < 11; layer++) {
            last.draw(layer, layer);
        }
        due("bestToLookAt(), the highest one of twelve, alone unknown", 11, last.bestToLookAt());
        GrainSilo middle = Silos.looked(7, 8, 9);
        middle.throwAway(1);
        due("bestToLookAt(), the middle one, alone unknown", 1, middle.bestToLookAt());
        GrainSilo first = Silos.looked(7, 8, 9);
        first.throwAway(0);
        due("bestToLookAt(), the lowest one, alone unknown", 0, first.bestToLookAt());
        GrainSilo older = Silos.of(7, 8, 9);
        older.draw(0, 0);
        older.pass(1);
        older.draw(2, 2);
        older.pass(1);
        older.draw(1, 1);
        due("bestToLookAt(), the one drawn longest ago", 0, older.bestToLookAt());
        GrainSilo pair = Silos.of(5, 20, 20);
        pair.draw(1, 2);
        due("bestToLookAt(), which tells another one too", 1, pair.bestToLookAt());
        GrainSilo sixteen = Silos.of(3, 4);
        Silos.drawSixteen(sixteen, 0, 0);
        due("bestToLookAt() of sixteen samples", 1, sixteen.bestToLookAt());
    }

    @Sentence(of = "Promise 33", says = "of several the lowest one")
    void promise33ReturnsOfSeveralTheLowestOne() {
        due("bestToLookAt() of twelve unknown ones", 0, Silos.twelve().bestToLookAt());
        due("bestToLookAt() of known ones", 0, Silos.looked(7, 8, 9).bestToLookAt());
        GrainSilo upper = Silos.of(7, 8, 9);
        upper.draw(0, 0);
        due("bestToLookAt(), the upper two unknown", 1, upper.bestToLookAt());
        GrainSilo ends = Silos.of(7, 8, 9);
        ends.draw(1, 1);
        due("bestToLookAt(), the lowest and the highest unknown", 0, ends.bestToLookAt());
        GrainSilo later = Silos.looked(7, 8, 9);
        later.pass(2);
        due("bestToLookAt(), all two days ago", 0, later.bestToLookAt());
    }

    @Sentence(of = "Promise 33", says = "(nothing is changed).")
    void promise33NothingIsChanged() {
        dueNothingChanged("bestToLookAt()", Silos::full, GrainSilo::bestToLookAt);
        dueNothingChanged("bestToLookAt()", Silos::twelve, GrainSilo::bestToLookAt);
        dueNothingChanged("bestToLookAt()", Silos::busy, GrainSilo::bestToLookAt);
        dueNothingChanged("bestToLookAt()", Silos::one, GrainSilo::bestToLookAt);
    }

    @Sentence(of = "Promise 33", says = "Throws IllegalStateException if there are no layers")
    void promise33ThrowsIfThereAreNoLayers() {
        dueRefused("bestToLookAt() of a new one", STATE, Silos::empty, GrainSilo::bestToLookAt);
        dueRefused("bestToLookAt() of an emptied one", STATE, Silos::emptied, GrainSilo::bestToLookAt);
        due("bestToLookAt() of one layer", 0, Silos.one().bestToLookAt());
    }

    // ---- promise 34: dampnessIn

    @Sentence(of = "Promise 34",
            says = "layer: a layer - days: how many days Returns its dampness behind them, if nothing else is "
            + "done")
    void promise34ReturnsItsDampnessIn1To50Days() {
        GrainSilo silo = Silos.of(40, 0);
        due("dampnessIn(0, 1)", 39, silo.dampnessIn(0, 1));
        due("dampnessIn(1, 1)", 1, silo.dampnessIn(1, 1));
        due("dampnessIn(0, 19)", 21, silo.dampnessIn(0, 19));
        due("dampnessIn(0, 20)", 20, silo.dampnessIn(0, 20));
        due("dampnessIn(0, 50)", 20, silo.dampnessIn(0, 50));
        due("dampnessIn(1, 50)", 20, silo.dampnessIn(1, 50));
        due("dampnessIn(0, 50) of one", 40, Silos.of(40).dampnessIn(0, 50));
        for (int days : new int[] {1, 2, 7, 49, 50}) {
            GrainSilo foreseen = Silos.longestKnown();
            GrainSilo passed = Silos.longestKnown();
            passed.pass(days);
            for (int layer = 0; layer < 12; layer++) {
                due("dampnessIn(" + layer + ", " + days + "), as it is then", passed.dampnessOf(layer),
                        foreseen.dampnessIn(layer, days));
            }
        }
    }

    @Sentence(of = "Promise 34", says = "(nothing is changed).")
    void promise34NothingIsChanged() {
        dueNothingChanged("dampnessIn(0, 1)", Silos::full, silo -> silo.dampnessIn(0, 1));
        dueNothingChanged("dampnessIn(11, 50)", Silos::full, silo -> silo.dampnessIn(11, 50));
        dueNothingChanged("dampnessIn(4, 7)", Silos::busy, silo -> silo.dampnessIn(4, 7));
    }

    @Sentence(of = "Promise 34", says = "Throws IndexOutOfBoundsException if there is no such layer")
    void promise34ThrowsIfThereIsNoSuchLayer() {
        dueRefusedOfNoLayer("dampnessIn, of one day, ", (silo, layer) -> silo.dampnessIn(layer, 1));
        dueRefusedOfNoLayer("dampnessIn, of fifty days, ", (silo, layer) -> silo.dampnessIn(layer, 50));
    }

    @Sentence(of = "Promise 34", says = "Throws IllegalArgumentException if days is not 1 to 50")
    void promise34ThrowsIfDaysIsNot1To50() {
        dueRefusedOutside("dampnessIn of layer 0, in days ", 1, 50, ARGUMENT, Silos::full,
                (silo, days) -> silo.dampnessIn(0, days));
        dueRefusedOutside("dampnessIn of layer 11, in days ", 1, 50, ARGUMENT, Silos::full,
                (silo, days) -> silo.dampnessIn(11, days));
        dueRefusedOutside("dampnessIn of the only layer, in days ", 1, 50, ARGUMENT, Silos::one,
                (silo, days) -> silo.dampnessIn(0, days));
        due("dampnessIn(0, 1)", 20, Silos.one().dampnessIn(0, 1));
        due("dampnessIn(0, 50)", 20, Silos.one().dampnessIn(0, 50));
    }

    // ---- promise 35: daysUntilEven

    @Sentence(of = "Promise 35",
            says = "Returns behind how many days no layer gets damper or drier in the next one, if nothing "
            + "else is done:")
    void promise35ReturnsBehindHowManyDaysNoneChanges() {
        due("daysUntilEven() of 5, 7", 1, Silos.of(5, 7).daysUntilEven());
        due("daysUntilEven() of 5, 8, which are 6, 7 then", 1, Silos.of(5, 8).daysUntilEven());
        due("daysUntilEven() of 5, 9", 2, Silos.of(5, 9).daysUntilEven());
        due("daysUntilEven() of 40, 0", 20, Silos.of(40, 0).daysUntilEven());
        due("daysUntilEven() of 5, 7, 0", 5, Silos.of(5, 7, 0).daysUntilEven());
        GrainSilo silo = Silos.longestKnown();
        due("daysUntilEven() of the longest known", 118, silo.daysUntilEven());
        for (int gone = 1; gone <= 118; gone++) {
            due("pass(1) of day " + gone + " is uneven", true, silo.pass(1) > 0);
            due("daysUntilEven(), " + gone + " days later", 118 - gone, silo.daysUntilEven());
        }
        due("pass(50) of the next days", 0, silo.pass(50));
    }

    @Sentence(of = "Promise 35", says = "0 if none does now,")
    void promise35Returns0IfNoneDoesNow() {
        due("daysUntilEven() of none", 0, Silos.empty().daysUntilEven());
        due("daysUntilEven() of one", 0, Silos.of(40).daysUntilEven());
        due("daysUntilEven() of equals", 0, Silos.alike(12, 7).daysUntilEven());
        due("daysUntilEven() of 5, 6", 0, Silos.of(5, 6).daysUntilEven());
        due("daysUntilEven() of 6, 5", 0, Silos.of(6, 5).daysUntilEven());
        due("daysUntilEven() of twelve, each 1 more", 0, Silos.twelve().daysUntilEven());
        GrainSilo silo = Silos.of(40, 0);
        silo.pass(20);
        due("daysUntilEven() of 20, 20", 0, silo.daysUntilEven());
        GrainSilo left = Silos.of(40, 0, 0);
        left.letOut();
        due("daysUntilEven() of 0, 0 behind letOut()", 0, left.daysUntilEven());
    }

    @Sentence(of = "Promise 35", says = "at most 200;")
    void promise35ReturnsAtMost200() {
        due("daysUntilEven() of 398, 0", 199, Silos.overDamp(398).daysUntilEven());
        due("daysUntilEven() of 400, 0", 200, Silos.overDamp(400).daysUntilEven());
        due("daysUntilEven() of 401, 0", 200, Silos.overDamp(401).daysUntilEven());
    }

    @Sentence(of = "Promise 35", says = "-1 if not by then")
    void promise35ReturnsMinus1IfNotByThen() {
        due("daysUntilEven() of 402, 0", -1, Silos.overDamp(402).daysUntilEven());
        due("daysUntilEven() of 404, 0", -1, Silos.overDamp(404).daysUntilEven());
        due("daysUntilEven() of 4000, 0", -1, Silos.overDamp(4000).daysUntilEven());
    }

    @Sentence(of = "Promise 35", says = "(nothing is changed).")
    void promise35NothingIsChanged() {
        dueNothingChanged("daysUntilEven()", Silos::empty, GrainSilo::daysUntilEven);
        dueNothingChanged("daysUntilEven()", Silos::one, GrainSilo::daysUntilEven);
        dueNothingChanged("daysUntilEven()", Silos::busy, GrainSilo::daysUntilEven);
        dueNothingChanged("daysUntilEven()", Silos::full, GrainSilo::daysUntilEven);
    }

    // ---- promise 36: meanDampness

    @Sentence(of = "Promise 36", says = "Returns the mean dampness of all layers;")
    void promise36ReturnsTheMeanOfAllLayers() {
        due("meanDampness() of one", 7.0, Silos.of(7).meanDampness());
        due("meanDampness() of 5, 6", 5.5, Silos.of(5, 6).meanDampness());
        due("meanDampness() of 0, 0, 1", 1.0 / 3.0, Silos.of(0, 0, 1).meanDampness());
        due("meanDampness() of 1, 1, 0", 2.0 / 3.0, Silos.of(1, 1, 0).meanDampness());
        due("meanDampness() of 0", 0.0, Silos.of(0).meanDampness());
        due("meanDampness() of twelve", 6.5, Silos.twelve().meanDampness());
        due("meanDampness() of twelve, each 40", 40.0, Silos.alike(12, 40).meanDampness());
        GrainSilo silo = Silos.of(40, 0, 5);
        silo.letOut();
        due("meanDampness() behind letOut()", 2.5, silo.meanDampness());
        silo.pass(1);
        due("meanDampness() a day later", 2.5, silo.meanDampness());
        GrainSilo uneven = Silos.of(5, 6, 8);
        uneven.pass(1);
        due("meanDampness() of 5, 7, 7", 19.0 / 3.0, uneven.meanDampness());
    }

    @Sentence(of = "Promise 36", says = "0 without any.")
    void promise36Returns0WithoutAny() {
        due("meanDampness() of a new one", 0.0, Silos.empty().meanDampness());
        due("meanDampness() of an emptied one", 0.0, Silos.emptied().meanDampness());
    }

    // ---- promise 37: digest

    @Sentence(of = "Promise 37",
            says = "Computes a checksum. A number d starts with 1907; for each of the following numbers x, d "
            + "becomes d * 31 + x,")
    void promise37DStartsWith1907() {
        long d = 1907;
        for (int x : new int[] {0, 0, 0, 14, 0, 0, 0, 0, 0}) {
            d = d * 31 + x;
        }
        due("digest() of a new one", d, Silos.empty().digest());
        due("digest() of a new one, reckoned elsewhere", 50420359861207711L, Silos.empty().digest());
    }

    @Sentence(of = "Promise 37", says = "which wraps around as a 64-bit integer:")
    void promise37WrapsAroundAsA64BitInteger() {
        GrainSilo one = Silos.of(9);
        due("digest() of one layer, 13 numbers", wrapped(numbersOf(one)), one.digest());
        GrainSilo full = Silos.full();
        due("digest() of twelve layers and sixteen samples, 121 numbers", wrapped(numbersOf(full)), full.digest());
        boolean anyLess = false;
        boolean anyGreater = false;
        for (int dampness = 0; dampness <= 40; dampness++) {
            GrainSilo silo = Silos.looked(dampness, dampness);
            due("digest() of " + dampness + " twice", wrapped(numbersOf(silo)), silo.digest());
            anyLess |= silo.digest() < 0;
            anyGreater |= silo.digest() > 0;
        }
        due("digest() is less than 0 for some of them", true, anyLess);
        due("digest() is greater than 0 for some of them", true, anyGreater);
    }

    /** Reckoned without a bound, and cut to 64 bits at the very end. */
    private static long wrapped(List<Integer> numbers) {
        BigInteger d = BigInteger.valueOf(1907);
        for (int x : numbers) {
            d = d.multiply(BigInteger.valueOf(31)).add(BigInteger.valueOf(x));
        }
        return d.longValue();
    }

    private static List<Integer> numbersOf(GrainSilo silo) {
        int layers = silo.layers();
        int samples = silo.samples();
        List<Integer> numbers = new ArrayList<>(List.of(layers, samples, silo.day(), silo.limit(), silo.sold(),
                silo.spoilt(), silo.doubt(), silo.surelyDry(), silo.surelyDamp()));
        for (int layer = 0; layer < layers; layer++) {
            numbers.addAll(List.of(silo.kindOf(layer), silo.dampnessOf(layer), silo.leastOf(layer),
                    silo.greatestOf(layer)));
        }
        for (int sample = 0; sample < samples; sample++) {
            numbers.addAll(List.of(silo.lowestOf(sample), silo.highestOf(sample), silo.sumOf(sample),
                    silo.doubtOf(sample)));
        }
        return numbers;
    }

    @Sentence(of = "Promise 37",
            says = "layers(), samples(), day(), limit(), sold(), spoilt(), doubt(), surelyDry(), surelyDamp();")
    void promise37NumbersOfTheSilo() {
        GrainSilo silo = Silos.of(10, 20, 30, 3, 25, 40);
        silo.letOut();
        silo.letOut();
        silo.letOut();
        silo.pass(7);
        silo.setLimit(9);
        due("digest() of three layers", wrapped(List.of(3, 0, 7, 9, 1, 2, 120, 0, 0,
                3, 10, 0, 40, 4, 25, 0, 40, 0, 33, 0, 40)), silo.digest());
        GrainSilo looked = Silos.looked(5, 20, 30);
        looked.throwAway(0);
        looked.draw(0, 0);
        due("digest() of three known layers",
                wrapped(List.of(3, 3, 0, 14, 0, 0, 0, 1, 2, 0, 5, 5, 5, 1, 20, 20, 20, 2, 30, 30, 30,
                        1, 1, 20, 0, 2, 2, 30, 0, 0, 0, 5, 0)),
                looked.digest());
    }

    @Sentence(of = "Promise 37", says = "for each layer kindOf(), dampnessOf(), leastOf(), greatestOf();")
    void promise37NumbersOfEachLayer() {
        due("digest() of no layers", wrapped(List.of(0, 0, 0, 14, 0, 0, 0, 0, 0)), Silos.empty().digest());
        GrainSilo one = Silos.empty();
        one.fill(3, 10);
        due("digest() of one layer", wrapped(List.of(1, 0, 0, 14, 0, 0, 40, 0, 0, 3, 10, 0, 40)), one.digest());
        List<Integer> numbers = new ArrayList<>(List.of(12, 0, 0, 14, 0, 0, 480, 0, 0));
        for (int layer = 0; layer < 12; layer++) {
            numbers.addAll(List.of(layer % 5, layer + 1, 0, 40));
        }
        due("digest() of twelve layers", wrapped(numbers), Silos.twelve().digest());
        due("digest() of an emptied one", wrapped(List.of(0, 0, 1, 9, 1, 1, 0, 0, 0)), Silos.emptied().digest());
    }

    @Sentence(of = "Promise 37", says = "for each sample lowestOf(), highestOf(), sumOf(), doubtOf().")
    void promise37NumbersOfEachSample() {
        GrainSilo silo = Silos.of(15, 16);
        silo.draw(1, 1);
        silo.pass(2);
        silo.draw(0, 1);
        due("digest() of two samples", wrapped(List.of(2, 2, 2, 14, 0, 0, 8, 0, 0,
                0, 15, 13, 17, 1, 16, 14, 18, 1, 1, 16, 2, 0, 1, 31, 0)), silo.digest());
        GrainSilo sixteen = Silos.of(9);
        List<Integer> numbers = new ArrayList<>(List.of(1, 16, 0, 14, 0, 0, 0, 1, 0, 0, 9, 9, 9));
        for (int sample = 0; sample < 16; sample++) {
            sixteen.draw(0, 0);
            numbers.addAll(List.of(0, 0, 9, 0));
        }
        due("digest() of sixteen samples", wrapped(numbers), sixteen.digest());
        GrainSilo below = Silos.of(0, 0);
        below.draw(0, 1);
        below.fill(0, 40);
        below.pass(3);
        below.letOut();
        due("digest() of a sum of -1", wrapped(List.of(2, 1, 3, 14, 1, 0, 45, 1, 0,
                1, 2, 0, 5, 0, 37, 0, 40, 0, 0, -1, 6)), below.digest());
    }

    @Sentence(of = "Promise 37", says = "Returns d.")
    void promise37ReturnsD() {
        GrainSilo silo = Silos.busy();
        due("digest()", wrapped(numbersOf(silo)), silo.digest());
        due("digest() once more", wrapped(numbersOf(silo)), silo.digest());
        dueNothingChanged("digest()", Silos::full, GrainSilo::digest);
    }
}
