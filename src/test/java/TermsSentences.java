import java.util.Arrays;

/** The sentences of "Terms" and of "What it is", and those that speak of all calls. */
final class TermsSentences extends Sentences {

    // ---- what it is

    @Sentence(of = "What it is", says = "An object is used for at most 512 calls after it has been made")
    void whatItIsCall512IsAnswered() {
        GrainSilo silo = Silos.alike(12, 40);
        Silos.drawSixteen(silo, 0, 11);
        for (int call = 29; call <= 510; call++) {
            silo.pass(50);
        }
        due("day() as the 511th call", 482 * 50, silo.day());
        due("doubtOf(15) as the 512th call", 482 * 50 * 12, silo.doubtOf(15));
        GrainSilo refused = Silos.of(3);
        for (int call = 2; call <= 511; call++) {
            dueThrown("letOut() of none, turnOver() of one", STATE, refused, GrainSilo::turnOver);
        }
        due("letOut() as the 512th call", 3, refused.letOut());
        GrainSilo drawn = Silos.of(7, 9);
        for (int pair = 0; pair < 254; pair++) {
            drawn.draw(0, 1);
            drawn.throwAway(0);
        }
        due("draw(0, 1) as the 511th call", 16, drawn.draw(0, 1));
        due("greatestOf(0) as the 512th call", 16, drawn.greatestOf(0));
        GrainSilo emptied = Silos.empty();
        for (int pair = 0; pair < 255; pair++) {
            emptied.fill(0, 14 + pair % 2);
            emptied.letOut();
        }
        due("sold() as the 511th call", 128, emptied.sold());
        due("spoilt() as the 512th call", 127, emptied.spoilt());
    }

    private void dueThrown(String call, Class<? extends RuntimeException> due, GrainSilo silo, Call made) {
        due(call, "throws " + due.getName(), Checks.answerOf(() -> made.on(silo)));
    }

    // ---- layers and samples

    @Sentence(of = "Terms", says = "Time is told in days, from 0.")
    void termsTimeIsToldFrom0() {
        due("day() of a new one", 0, Silos.empty().day());
        due("day() of a filled one", 0, Silos.twelve().day());
        GrainSilo silo = Silos.empty();
        silo.pass(1);
        due("day() behind the first day", 1, silo.day());
    }

    @Sentence(of = "Terms", says = "Layers. At most 12, numbered from 0, the lowest one;")
    void termsLayersAreAtMost12From0() {
        GrainSilo silo = Silos.twelve();
        due("layers()", 12, silo.layers());
        for (int layer = 0; layer < 12; layer++) {
            due("dampnessOf(" + layer + "), filled in as number " + layer, layer + 1, silo.dampnessOf(layer));
        }
        due("letOut(), the lowest one", 1, silo.letOut());
        due("dampnessOf(0) then", 2, silo.dampnessOf(0));
        dueRefused("fill of the 13th", STATE, Silos::twelve, full -> full.fill(0, 0));
    }

    @Sentence(of = "Terms", says = "each has a kind of grain, 0 to 4, and a dampness, 0 to 40.")
    void termsKindIs0To4AndDampness0To40() {
        for (int kind : new int[] {0, 1, 2, 3, 4}) {
            for (int dampness : new int[] {0, 1, 39, 40}) {
                GrainSilo silo = Silos.empty();
                due("fill(" + kind + ", " + dampness + ")", 0, silo.fill(kind, dampness));
                dueKinds("filled", silo, kind);
                dueDampness("filled", silo, dampness);
            }
        }
        GrainSilo ends = Silos.of(40, 40, 0, 0);
        ends.pass(50);
        for (int layer = 0; layer < 4; layer++) {
            int dampness = ends.dampnessOf(layer);
            due("dampnessOf(" + layer + ") is 0 to 40 days later", true, dampness >= 0 && dampness <= 40);
        }
    }

    @Sentence(of = "Terms", says = "What is above the limit, 0 to 40 (14, at first), is damp, all else is dry.")
    void termsAboveTheLimitIsDamp() {
        due("limit() at first", 14, Silos.empty().limit());
        due("dampLayers() of 14 at first", 0, Silos.of(14).dampLayers());
        due("dampLayers() of 15 at first", 1, Silos.of(15).dampLayers());
        dueDamp(0, 0, 0);
        dueDamp(0, 1, 1);
        dueDamp(20, 19, 0);
        dueDamp(20, 20, 0);
        dueDamp(20, 21, 1);
        dueDamp(39, 39, 0);
        dueDamp(39, 40, 1);
        dueDamp(40, 40, 0);
    }

    private void dueDamp(int limit, int dampness, int due) {
        GrainSilo silo = Silos.looked(dampness);
        silo.setLimit(limit);
        String when = " of " + dampness + ", the limit at " + limit;
        due("dampLayers()" + when, due, silo.dampLayers());
        due("surelyDamp()" + when, due, silo.surelyDamp());
        due("surelyDry()" + when, 1 - due, silo.surelyDry());
        silo.letOut();
        due("spoilt()" + when, due, silo.spoilt());
        due("sold()" + when, 1 - due, silo.sold());
    }

    @Sentence(of = "Terms", says = "Samples. At most 16, numbered from 0 in the order in which they were drawn;")
    void termsSamplesAreAtMost16InOrder() {
        GrainSilo silo = Silos.twelve();
        for (int sample = 0; sample < 16; sample++) {
            silo.draw(sample % 7, sample % 7 + sample % 5);
        }
        due("samples()", 16, silo.samples());
        for (int sample = 0; sample < 16; sample++) {
            due("lowestOf(" + sample + ")", sample % 7, silo.lowestOf(sample));
            due("highestOf(" + sample + ")", sample % 7 + sample % 5, silo.highestOf(sample));
        }
        dueRefused("draw of the 17th", STATE, Silos::full, full -> full.draw(0, 0));
    }

    @Sentence(of = "Terms",
            says = "each was drawn of some layers, one upon the other, tells a sum (that of their dampness, "
            + "added, as it was drawn), and has a doubt (0, as it was drawn).")
    void termsSampleTellsTheSumAsItWasDrawn() {
        GrainSilo silo = Silos.of(40, 0, 7);
        silo.draw(0, 1);
        silo.draw(1, 1);
        silo.draw(0, 2);
        dueSample("as it was drawn", silo, 0, 0, 1, 40, 0);
        dueSample("as it was drawn", silo, 1, 1, 1, 0, 0);
        dueSample("as it was drawn", silo, 2, 0, 2, 47, 0);
        silo.pass(1);
        dueDampness("a day later", silo, 39, 1, 6);
        due("sumOf(0) a day later", 40, silo.sumOf(0));
        due("sumOf(1) a day later", 0, silo.sumOf(1));
        due("sumOf(2) a day later", 47, silo.sumOf(2));
        silo.draw(1, 1);
        dueSample("as it was drawn a day later", silo, 3, 1, 1, 1, 0);
    }

    // ---- a day

    private void dueDay(int[] before, int... then) {
        GrainSilo silo = Silos.of(before);
        silo.pass(1);
        dueDampness("a day behind " + Arrays.toString(before), silo, then);
    }

    private static int[] layers(int... dampness) {
        return dampness;
    }

    @Sentence(of = "Terms", says = "A day goes like this, for all layers by their dampness as the day begins:")
    void termsDayGoesByDampnessAsItBegins() {
        dueDay(layers(0, 2, 4), 1, 2, 3);
        dueDay(layers(4, 2, 0), 3, 2, 1);
        dueDay(layers(0, 2, 3), 1, 1, 3);
        dueDay(layers(3, 2, 0), 3, 1, 1);
        dueDay(layers(5, 5, 7, 7), 5, 6, 6, 7);
        GrainSilo silo = Silos.of(0, 2, 4);
        due("dampnessIn(0, 1)", 1, silo.dampnessIn(0, 1));
        due("dampnessIn(1, 1)", 2, silo.dampnessIn(1, 1));
        due("dampnessIn(2, 1)", 3, silo.dampnessIn(2, 1));
    }

    @Sentence(of = "Terms", says = "each layer counts those beside it, above and below,")
    void termsLayerCountsThoseBesideIt() {
        dueDay(layers(10, 20, 20), 11, 19, 20);
        dueDay(layers(20, 20, 10), 20, 19, 11);
        dueDay(layers(0, 1, 2), 0, 1, 2);
        dueDay(layers(0, 1, 2, 3, 4, 5, 6, 7, 8, 9, 10, 11), 0, 1, 2, 3, 4, 5, 6, 7, 8, 9, 10, 11);
        dueDay(layers(40, 40, 40, 40, 40, 40, 40, 40, 40, 40, 40, 0), 40, 40, 40, 40, 40, 40, 40, 40, 40, 40, 39, 1);
        dueDay(layers(0, 40, 40, 40, 40, 40, 40, 40, 40, 40, 40, 40), 1, 39, 40, 40, 40, 40, 40, 40, 40, 40, 40, 40);
        dueDay(layers(40), 40);
        dueDay(layers(0), 0);
        GrainSilo left = Silos.of(40, 0, 0);
        left.letOut();
        left.pass(1);
        dueDampness("a day behind letOut(), nothing below", left, 0, 0);
        GrainSilo top = Silos.of(5, 0, 40);
        top.letOut();
        top.pass(3);
        dueDampness("three days behind letOut(), nothing above", top, 3, 37);
    }

    @Sentence(of = "Terms", says = "whose dampness is greater than its own by 2 or more,")
    void termsGreaterBy2OrMoreCounts() {
        due("dampnessOf(0) below one that is no damper", 20, firstADayLater(20, 20));
        due("dampnessOf(0) below one greater by 1", 20, firstADayLater(20, 21));
        due("dampnessOf(0) below one greater by 2", 21, firstADayLater(20, 22));
        due("dampnessOf(0) below one greater by 3", 21, firstADayLater(20, 23));
        due("dampnessOf(0) below one greater by 40", 1, firstADayLater(0, 40));
        due("dampnessOf(1) upon one greater by 1", 20, lastADayLater(21, 20));
        due("dampnessOf(1) upon one greater by 2", 21, lastADayLater(22, 20));
        due("dampnessOf(1) upon one greater by 40", 1, lastADayLater(40, 0));
    }

    @Sentence(of = "Terms", says = "and those whose dampness is less by 2 or more;")
    void termsLessBy2OrMoreCounts() {
        due("dampnessOf(0) below one less by 1", 20, firstADayLater(20, 19));
        due("dampnessOf(0) below one less by 2", 19, firstADayLater(20, 18));
        due("dampnessOf(0) below one less by 3", 19, firstADayLater(20, 17));
        due("dampnessOf(0) below one less by 40", 39, firstADayLater(40, 0));
        due("dampnessOf(1) upon one less by 1", 20, lastADayLater(19, 20));
        due("dampnessOf(1) upon one less by 2", 19, lastADayLater(18, 20));
        due("dampnessOf(1) upon one less by 40", 39, lastADayLater(0, 40));
    }

    private static int firstADayLater(int first, int second) {
        GrainSilo silo = Silos.of(first, second);
        silo.pass(1);
        return silo.dampnessOf(0);
    }

    private static int lastADayLater(int first, int second) {
        GrainSilo silo = Silos.of(first, second);
        silo.pass(1);
        return silo.dampnessOf(1);
    }

    @Sentence(of = "Terms",
            says = "with more of the first ones it is 1 damper then, with more of the others 1 drier.")
    void termsLayerIs1DamperOr1Drier() {
        due("dampnessOf(1) between two greater ones", 11, middleADayLater(20, 10, 30));
        due("dampnessOf(1) between a greater one and none that counts", 11, middleADayLater(40, 10, 11));
        due("dampnessOf(1) between none that counts and a greater one", 11, middleADayLater(9, 10, 12));
        due("dampnessOf(1) between a greater and a lesser one", 10, middleADayLater(12, 10, 0));
        due("dampnessOf(1) between a lesser and a greater one", 10, middleADayLater(8, 10, 40));
        due("dampnessOf(1) between none that counts", 10, middleADayLater(9, 10, 11));
        due("dampnessOf(1) between equals", 10, middleADayLater(10, 10, 10));
        due("dampnessOf(1) between two lesser ones", 9, middleADayLater(0, 10, 5));
        due("dampnessOf(1) between a lesser one and none that counts", 9, middleADayLater(0, 10, 11));
        due("dampnessOf(1) between none that counts and a lesser one", 9, middleADayLater(11, 10, 8));
        due("dampnessOf(1) of 0 between two greater ones", 1, middleADayLater(40, 0, 40));
        due("dampnessOf(1) of 40 between two lesser ones", 39, middleADayLater(0, 40, 0));
    }

    private static int middleADayLater(int below, int middle, int above) {
        GrainSilo silo = Silos.of(below, middle, above);
        silo.pass(1);
        return silo.dampnessOf(1);
    }

    @Sentence(of = "Terms", says = "Each sample has as much more doubt as it has layers.")
    void termsSampleHasAsMuchMoreDoubtAsLayers() {
        GrainSilo silo = Silos.twelve();
        silo.draw(3, 3);
        silo.draw(10, 11);
        silo.draw(0, 11);
        silo.pass(1);
        due("doubtOf(0), of one layer", 1, silo.doubtOf(0));
        due("doubtOf(1), of two layers", 2, silo.doubtOf(1));
        due("doubtOf(2), of twelve layers", 12, silo.doubtOf(2));
        silo.pass(1);
        due("doubtOf(0), two days later", 2, silo.doubtOf(0));
        due("doubtOf(1), two days later", 4, silo.doubtOf(1));
        due("doubtOf(2), two days later", 24, silo.doubtOf(2));
        silo.pass(50);
        due("doubtOf(2), fifty-two days later", 624, silo.doubtOf(2));
        GrainSilo even = Silos.alike(2, 5);
        Silos.drawSixteen(even, 0, 1);
        even.pass(1);
        due("doubtOf(0) of sixteen, where nothing gets damper", 2, even.doubtOf(0));
        due("doubtOf(15) of sixteen, where nothing gets damper", 2, even.doubtOf(15));
    }

    @Sentence(of = "Terms", says = "The day is 1 greater.")
    void termsDayIs1Greater() {
        for (GrainSilo silo : new GrainSilo[] {Silos.empty(), Silos.twelve(), Silos.alike(3, 5)}) {
            silo.pass(1);
            due("day() behind one day", 1, silo.day());
            silo.pass(1);
            due("day() behind two days", 2, silo.day());
        }
    }

    // ---- what could be

    @Sentence(of = "Terms",
            says = "What could be. Whole numbers of dampness for all layers could be, if each is 0 to 40,")
    void termsCouldBeEachIs0To40() {
        GrainSilo unknown = Silos.of(20, 20);
        dueRange("without samples", unknown, 0, 0, 40);
        dueRange("without samples", unknown, 1, 0, 40);
        dueSums("without samples", unknown, 0, 1, 0, 80);
        GrainSilo damp = Silos.of(40, 39);
        damp.draw(0, 1);
        dueRange("of 79 in two", damp, 0, 39, 40);
        dueRange("of 79 in two", damp, 1, 39, 40);
        GrainSilo dry = Silos.of(0, 1);
        dry.draw(0, 1);
        dueRange("of 1 in two", dry, 0, 0, 1);
        dueRange("of 1 in two", dry, 1, 0, 1);
        GrainSilo ends = Silos.looked(40, 0);
        ends.pass(2);
        dueRange("40, two days later", ends, 0, 38, 40);
        dueRange("0, two days later", ends, 1, 0, 2);
        GrainSilo middle = Silos.of(20, 20);
        middle.draw(0, 1);
        dueRange("of 40 in two", middle, 0, 0, 40);
        GrainSilo more = Silos.of(20, 21);
        more.draw(0, 1);
        dueRange("of 41 in two", more, 0, 1, 40);
        GrainSilo less = Silos.of(20, 19);
        less.draw(0, 1);
        dueRange("of 39 in two", less, 0, 0, 39);
    }

    @Sentence(of = "Terms",
            says = "and for each sample those of its layers, added, are no more than the sum and the doubt, "
            + "added,")
    void termsCouldBeNoMoreThanSumAndDoubt() {
        GrainSilo silo = Silos.looked(20);
        due("greatestOf(0) of no doubt", 20, silo.greatestOf(0));
        silo.pass(1);
        due("greatestOf(0) of a doubt of 1", 21, silo.greatestOf(0));
        silo.pass(18);
        due("greatestOf(0) of a doubt of 19", 39, silo.greatestOf(0));
        silo.pass(1);
        due("greatestOf(0) of a doubt of 20", 40, silo.greatestOf(0));
        silo.pass(1);
        due("greatestOf(0) of a doubt of 21", 40, silo.greatestOf(0));
        GrainSilo both = Silos.of(5, 6, 7);
        both.draw(0, 2);
        both.pass(2);
        due("greatestOf(0) of 18 in three and a doubt of 6", 24, both.greatestOf(0));
        due("greatestOf(2) of 18 in three and a doubt of 6", 24, both.greatestOf(2));
        due("greatestSum(0, 2) of 18 in three and a doubt of 6", 24, both.greatestSum(0, 2));
        both.draw(0, 0);
        both.draw(2, 2);
        due("greatestOf(1) beside 5 and 7", 12, both.greatestOf(1));
    }

    @Sentence(of = "Terms", says = "and no less than the sum less the doubt.")
    void termsCouldBeNoLessThanSumLessDoubt() {
        GrainSilo silo = Silos.looked(20);
        due("leastOf(0) of no doubt", 20, silo.leastOf(0));
        silo.pass(1);
        due("leastOf(0) of a doubt of 1", 19, silo.leastOf(0));
        silo.pass(18);
        due("leastOf(0) of a doubt of 19", 1, silo.leastOf(0));
        silo.pass(1);
        due("leastOf(0) of a doubt of 20", 0, silo.leastOf(0));
        silo.pass(1);
        due("leastOf(0) of a doubt of 21", 0, silo.leastOf(0));
        GrainSilo both = Silos.of(35, 36, 37);
        both.draw(0, 2);
        both.pass(2);
        due("leastOf(0) of 108 in three and a doubt of 6", 22, both.leastOf(0));
        due("leastOf(2) of 108 in three and a doubt of 6", 22, both.leastOf(2));
        due("leastSum(0, 2) of 108 in three and a doubt of 6", 102, both.leastSum(0, 2));
        both.draw(0, 0);
        both.draw(2, 2);
        due("leastOf(1) beside 35 and 37", 30, both.leastOf(1));
    }

    @Sentence(of = "Terms", says = "(What is so always could be.)")
    void termsWhatIsSoAlwaysCouldBe() {
        dueCouldBe(Silos.full(), 12);
        dueCouldBe(Silos.busy(), 4);
        GrainSilo opened = Silos.of(0, 0);
        opened.draw(0, 1);
        opened.fill(0, 40);
        opened.pass(3);
        due("letOut() of what was 0 as it was drawn", 1, opened.letOut());
        due("sumOf(0) that is less than nothing", -1, opened.sumOf(0));
        dueCouldBe(opened, 1);
    }

    /** Each step leaves a layer fewer, one way or another, and asks whether what is so is between the ends told. */
    private void dueCouldBe(GrainSilo silo, int steps) {
        for (int step = 0; step < steps; step++) {
            int layers = silo.layers();
            for (int layer = 0; layer < layers; layer++) {
                int dampness = silo.dampnessOf(layer);
                String when = ", step " + step;
                due("leastOf(" + layer + ") is no more than " + dampness + when, true, silo.leastOf(layer) <= dampness);
                due("greatestOf(" + layer + ") is no less than " + dampness + when, true,
                        silo.greatestOf(layer) >= dampness);
            }
            silo.pass(1 + step % 2);
            if (step % 4 == 3 && layers > 1) {
                silo.turnOver();
            }
            silo.letOut();
        }
    }

    @Sentence(of = "Terms",
            says = "The least and the greatest dampness of a layer are those that it has in any of what could "
            + "be.")
    void termsLeastAndGreatestAreOfWhatCouldBe() {
        GrainSilo silo = Silos.of(10, 20, 30, 5);
        silo.draw(0, 1);
        silo.draw(1, 2);
        silo.draw(2, 3);
        dueRange("by 30, 50 and 35, each of two", silo, 0, 0, 15);
        dueRange("by 30, 50 and 35, each of two", silo, 1, 15, 30);
        dueRange("by 30, 50 and 35, each of two", silo, 2, 20, 35);
        dueRange("by 30, 50 and 35, each of two", silo, 3, 0, 15);
        silo.pass(1);
        dueRange("a day later", silo, 0, 0, 21);
        dueRange("a day later", silo, 1, 11, 32);
        dueRange("a day later", silo, 2, 16, 37);
        dueRange("a day later", silo, 3, 0, 21);
        GrainSilo known = Silos.of(7, 8, 9, 10, 11, 12, 13, 14, 15, 16, 17, 18);
        known.draw(0, 11);
        known.draw(1, 11);
        known.draw(0, 10);
        known.draw(4, 7);
        known.draw(4, 6);
        dueRange("what is in all twelve, but not in the others", known, 0, 7, 7);
        dueRange("what is in all twelve, but not in the lower ones", known, 11, 18, 18);
        dueRange("what is in four, but not in the lower three", known, 7, 14, 14);
        dueRange("one of the lower three, of 36", known, 5, 0, 36);
    }

    @Sentence(of = "Terms", says = "It is known, if both are the same;")
    void termsKnownIfBothAreTheSame() {
        GrainSilo silo = Silos.looked(20);
        due("isKnown(0) of 20 to 20", true, silo.isKnown(0));
        GrainSilo end = Silos.looked(40);
        end.pass(1);
        dueRange("a day later", end, 0, 39, 40);
        due("isKnown(0) of 39 to 40", false, end.isKnown(0));
        GrainSilo dry = Silos.looked(0);
        dry.pass(1);
        dueRange("a day later", dry, 0, 0, 1);
        due("isKnown(0) of 0 to 1", false, dry.isKnown(0));
        GrainSilo full = Silos.alike(12, 40);
        full.draw(0, 11);
        due("isKnown(11) of 480 in twelve", true, full.isKnown(11));
        GrainSilo none = Silos.alike(12, 0);
        none.draw(0, 11);
        due("isKnown(0) of 0 in twelve", true, none.isKnown(0));
        due("isKnown(0) without samples", false, Silos.of(20).isKnown(0));
    }

    @Sentence(of = "Terms", says = "surely dry, if the greatest one is not above the limit;")
    void termsSurelyDryIfGreatestIsNotAboveTheLimit() {
        GrainSilo silo = Silos.looked(20);
        silo.pass(3);
        dueRange("three days later", silo, 0, 17, 23);
        dueSurelyDry(silo, 22, 0);
        dueSurelyDry(silo, 23, 1);
        dueSurelyDry(silo, 24, 1);
        GrainSilo unknown = Silos.of(0);
        dueSurelyDry(unknown, 39, 0);
        dueSurelyDry(unknown, 40, 1);
        GrainSilo dry = Silos.looked(0);
        dueSurelyDry(dry, 0, 1);
    }

    private void dueSurelyDry(GrainSilo silo, int limit, int due) {
        silo.setLimit(limit);
        due("surelyDry(), the limit at " + limit, due, silo.surelyDry());
    }

    @Sentence(of = "Terms", says = "surely damp, if the least one is.")
    void termsSurelyDampIfLeastIsAboveTheLimit() {
        GrainSilo silo = Silos.looked(20);
        silo.pass(3);
        dueRange("three days later", silo, 0, 17, 23);
        dueSurelyDamp(silo, 16, 1);
        dueSurelyDamp(silo, 17, 0);
        dueSurelyDamp(silo, 18, 0);
        GrainSilo unknown = Silos.of(40);
        dueSurelyDamp(unknown, 0, 0);
        GrainSilo damp = Silos.looked(40);
        dueSurelyDamp(damp, 39, 1);
        dueSurelyDamp(damp, 40, 0);
        GrainSilo little = Silos.looked(1);
        dueSurelyDamp(little, 0, 1);
    }

    private void dueSurelyDamp(GrainSilo silo, int limit, int due) {
        silo.setLimit(limit);
        due("surelyDamp(), the limit at " + limit, due, silo.surelyDamp());
    }

    @Sentence(of = "Terms",
            says = "The doubt of the silo is, for all layers added, by how much the greatest dampness is more "
            + "than the least one.")
    void termsDoubtOfTheSiloIsOfAllLayers() {
        due("doubt() without layers", 0, Silos.empty().doubt());
        due("doubt() of one unknown layer", 40, Silos.of(7).doubt());
        due("doubt() of twelve unknown layers", 480, Silos.twelve().doubt());
        due("doubt() of known layers", 0, Silos.looked(3, 40, 0).doubt());
        GrainSilo silo = Silos.looked(20, 40, 0);
        silo.pass(2);
        due("doubt() of 18 to 22, 38 to 40 and 0 to 2", 8, silo.doubt());
        silo.fill(0, 0);
        due("doubt() with one more that is unknown", 48, silo.doubt());
    }

    // ---- all calls

    private static final int[] NUMBERS = {0, -1, 1, 4, 5, 11, 12, 16, 41, LOWEST, HIGHEST};

    @Sentence(of = "Terms", says = "A method that throws an exception changes nothing.")
    void termsWhatThrowsChangesNothing() {
        int refused = 0;
        for (int state = 0; state < 6; state++) {
            refused += dueRefusalsChangeNothing(state);
        }
        due("more than 800 calls were refused", true, refused > 800);
    }

    private static GrainSilo inState(int state) {
        return switch (state) {
            case 0 -> Silos.empty();
            case 1 -> Silos.emptied();
            case 2 -> Silos.one();
            case 3 -> Silos.two();
            case 4 -> Silos.busy();
            default -> Silos.full();
        };
    }

    private int dueRefusalsChangeNothing(int state) {
        int refused = dueNoChangeIfRefused("letOut()", state, GrainSilo::letOut)
                + dueNoChangeIfRefused("turnOver()", state, GrainSilo::turnOver)
                + dueNoChangeIfRefused("worstLayer()", state, GrainSilo::worstLayer)
                + dueNoChangeIfRefused("bestToLookAt()", state, GrainSilo::bestToLookAt);
        for (int a : NUMBERS) {
            refused += dueRefusalsOfOneNumber(state, a);
            for (int b : new int[] {0, -1, 4, 12, 51, LOWEST, HIGHEST}) {
                refused += dueRefusalsOfTwoNumbers(state, a, b);
            }
        }
        return refused;
    }

    private int dueRefusalsOfOneNumber(int state, int a) {
        NumberCall[] calls = {GrainSilo::setLimit, GrainSilo::pass, GrainSilo::throwAway, GrainSilo::lowestOf,
            GrainSilo::highestOf, GrainSilo::sumOf, GrainSilo::doubtOf, GrainSilo::kindOf, GrainSilo::dampnessOf,
            GrainSilo::layersAheadOf, GrainSilo::leastOf, GrainSilo::greatestOf, GrainSilo::isKnown};
        int refused = 0;
        for (int i = 0; i < calls.length; i++) {
            NumberCall call = calls[i];
            refused += dueNoChangeIfRefused("call " + i + " of one number, of " + a, state, silo -> call.on(silo, a));
        }
        return refused;
    }

    private int dueRefusalsOfTwoNumbers(int state, int a, int b) {
        LayersCall[] calls = {GrainSilo::fill, GrainSilo::draw, GrainSilo::leastSum, GrainSilo::greatestSum,
            GrainSilo::doubtBehind, GrainSilo::dampnessIn};
        int refused = 0;
        for (int i = 0; i < calls.length; i++) {
            LayersCall call = calls[i];
            refused += dueNoChangeIfRefused("call " + i + " of two numbers, of " + a + " and " + b, state,
                    silo -> call.on(silo, a, b));
        }
        return refused;
    }

    /** Answers 1 if the call is refused, otherwise 0. */
    private int dueNoChangeIfRefused(String call, int state, Call made) {
        GrainSilo silo = inState(state);
        if (!Checks.answerOf(() -> made.on(silo)).toString().startsWith("throws ")) {
            return 0;
        }
        dueNothingChanged(call + " in state " + state, () -> inState(state), made);
        return 1;
    }

    @Sentence(of = "Terms", says = "If several exceptions apply, the one that is named first is thrown.")
    void termsExceptionNamedFirstIsThrown() {
        for (int wrong : outside(0, 4)) {
            dueRefused("fill(" + wrong + ", 0) of the 13th", ARGUMENT, Silos::full, silo -> silo.fill(wrong, 0));
        }
        for (int wrong : outside(0, 40)) {
            dueRefused("fill(4, " + wrong + ") of the 13th", ARGUMENT, Silos::full, silo -> silo.fill(4, wrong));
        }
        dueRefused("fill(5, 41) of the 13th", ARGUMENT, Silos::full, silo -> silo.fill(5, 41));
        int[][] none = {{-1, 0}, {0, 12}, {12, 12}, {1, 0}, {11, 10}, {0, -1}, {LOWEST, HIGHEST}, {HIGHEST, LOWEST}};
        for (int[] w : none) {
            dueRefused("draw(" + w[0] + ", " + w[1] + ") of the 17th sample", INDEX, Silos::full,
                    silo -> silo.draw(w[0], w[1]));
        }
        for (int wrong : outside(1, 50)) {
            dueRefused("dampnessIn(12, " + wrong + ")", INDEX, Silos::full, silo -> silo.dampnessIn(12, wrong));
            dueRefused("dampnessIn(-1, " + wrong + ")", INDEX, Silos::full, silo -> silo.dampnessIn(-1, wrong));
            dueRefused("dampnessIn(0, " + wrong + ") of none", INDEX, Silos::empty, silo -> silo.dampnessIn(0, wrong));
        }
        dueRefused("draw(0, 0) of none, with samples gone", INDEX, TermsSentences::sixteenGone,
                silo -> silo.draw(0, 0));
    }

    private static GrainSilo sixteenGone() {
        GrainSilo silo = Silos.of(5);
        Silos.drawSixteen(silo, 0, 0);
        silo.letOut();
        return silo;
    }
}
