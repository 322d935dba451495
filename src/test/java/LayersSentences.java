import java.util.List;

/** The sentences of promises 1 to 6. */
final class LayersSentences extends Sentences {

    // ---- promise 1: a new object

    @Sentence(of = "Promise 1", says = "Creates an empty silo.")
    void promise1NewSiloIsEmpty() {
        List<String> due = List.of("samples(): 0", "layers(): 0", "day(): 0", "limit(): 14", "sold(): 0", "spoilt(): 0",
                "dampLayers(): 0", "surelyDry(): 0", "surelyDamp(): 0",
                "worstLayer(): throws java.lang.IllegalStateException", "doubt(): 0",
                "bestToLookAt(): throws java.lang.IllegalStateException", "daysUntilEven(): 0", "meanDampness(): 0.0",
                "digest(): 50420359861207711", "layersAheadOf(0): -1", "layersAheadOf(1): -1", "layersAheadOf(2): -1",
                "layersAheadOf(3): -1", "layersAheadOf(4): -1");
        due("all answers of a new one", due, Answers.of(Silos.empty()));
        Silos.full().pass(3);
        due("all answers of a new one, behind calls of another", due, Answers.of(Silos.empty()));
    }

    // ---- promise 2: fill

    @Sentence(of = "Promise 2", says = "Fills a layer in, upon all others.")
    void promise2LayerIsFilledInUponAllOthers() {
        GrainSilo silo = Silos.empty();
        silo.fill(3, 30);
        dueDampness("filled into an empty one", silo, 30);
        silo.draw(0, 0);
        silo.fill(1, 10);
        dueDampness("filled in upon one", silo, 30, 10);
        dueKinds("filled in upon one", silo, 3, 1);
        dueSample("of the lower one", silo, 0, 0, 0, 30, 0);
        dueRange("of the lower one", silo, 0, 30, 30);
        dueRange("not drawn of", silo, 1, 0, 40);
        GrainSilo full = Silos.of(1, 2, 3, 4, 5, 6, 7, 8, 9, 10, 11);
        full.fill(2, 40);
        dueDampness("filled in upon eleven", full, 1, 2, 3, 4, 5, 6, 7, 8, 9, 10, 11, 40);
        GrainSilo again = Silos.twelve();
        again.letOut();
        again.fill(2, 0);
        dueDampness("filled in where one was let out", again, 2, 3, 4, 5, 6, 7, 8, 9, 10, 11, 12, 0);
        again.turnOver();
        dueDampness("turned over", again, 3, 4, 5, 6, 7, 8, 9, 10, 11, 12, 0, 2);
    }

    @Sentence(of = "Promise 2", says = "kind: its kind of grain")
    void promise2KindFrom0To4() {
        GrainSilo silo = Silos.empty();
        silo.fill(0, 3);
        silo.fill(4, 3);
        silo.fill(2, 3);
        dueKinds("filled in", silo, 0, 4, 2);
    }

    @Sentence(of = "Promise 2", says = "dampness: its dampness")
    void promise2DampnessFrom0To40() {
        GrainSilo silo = Silos.empty();
        silo.fill(3, 0);
        silo.fill(3, 40);
        silo.fill(3, 14);
        dueDampness("filled in", silo, 0, 40, 14);
    }

    @Sentence(of = "Promise 2", says = "Returns its number.")
    void promise2ReturnsTheNumberFrom0To11() {
        GrainSilo silo = Silos.empty();
        for (int number = 0; number < 12; number++) {
            due("fill of the first ones", number, silo.fill(0, 40 - number));
        }
        silo.letOut();
        due("fill where one was let out", 11, silo.fill(0, 3));
        silo.letOut();
        silo.letOut();
        due("fill where two were let out", 10, silo.fill(0, 3));
        silo.turnOver();
        due("fill behind turnOver()", 11, silo.fill(0, 3));
        GrainSilo emptied = Silos.of(5);
        emptied.letOut();
        due("fill of an emptied one", 0, emptied.fill(4, 40));
    }

    @Sentence(of = "Promise 2", says = "Throws IllegalArgumentException if kind is not 0 to 4,")
    void promise2ThrowsIfKindIsNot0To4() {
        dueRefusedOutside("fill, 7 damp, of kind ", 0, 4, ARGUMENT, Silos::busy, (silo, kind) -> silo.fill(kind, 7));
        dueRefusedOutside("fill, 0 damp, of kind ", 0, 4, ARGUMENT, Silos::empty, (silo, kind) -> silo.fill(kind, 0));
        due("fill(0, 7)", 5, Silos.busy().fill(0, 7));
        due("fill(4, 7)", 5, Silos.busy().fill(4, 7));
    }

    @Sentence(of = "Promise 2", says = "or dampness is not 0 to 40")
    void promise2ThrowsIfDampnessIsNot0To40() {
        dueRefusedOutside("fill of kind 2, so damp: ", 0, 40, ARGUMENT, Silos::busy,
                (silo, damp) -> silo.fill(2, damp));
        dueRefusedOutside("fill of kind 0, so damp: ", 0, 40, ARGUMENT, Silos::empty,
                (silo, damp) -> silo.fill(0, damp));
        due("fill(2, 0)", 5, Silos.busy().fill(2, 0));
        due("fill(2, 40)", 5, Silos.busy().fill(2, 40));
    }

    @Sentence(of = "Promise 2", says = "Throws IllegalStateException if there are 12")
    void promise2ThrowsIfThereAre12() {
        dueRefused("fill of the 13th", STATE, Silos::full, silo -> silo.fill(4, 40));
        dueRefused("fill of the 13th without samples", STATE, Silos::twelve, silo -> silo.fill(0, 0));
        GrainSilo silo = Silos.twelve();
        silo.letOut();
        due("fill upon 11", 11, silo.fill(0, 0));
        GrainSilo turned = Silos.twelve();
        turned.turnOver();
        due("fill of the 13th behind turnOver()", "throws java.lang.IllegalStateException",
                Checks.answerOf(() -> turned.fill(0, 0)));
    }

    // ---- promise 3: letOut

    @Sentence(of = "Promise 3", says = "Lets the lowest layer out; it is sold, if it is dry, otherwise it is spoilt.")
    void promise3LowestIsSoldIfDryOtherwiseSpoilt() {
        dueLetOut(14, 13, true);
        dueLetOut(14, 14, true);
        dueLetOut(14, 15, false);
        dueLetOut(0, 0, true);
        dueLetOut(0, 1, false);
        dueLetOut(40, 40, true);
        dueLetOut(39, 40, false);
        GrainSilo silo = Silos.of(3, 40, 14);
        silo.letOut();
        silo.letOut();
        silo.letOut();
        due("sold() of two dry ones", 2, silo.sold());
        due("spoilt() of one damp one", 1, silo.spoilt());
        GrainSilo doubtful = Silos.looked(14);
        doubtful.pass(5);
        doubtful.letOut();
        due("sold() of a dry one that is not surely dry", 1, doubtful.sold());
    }

    private void dueLetOut(int limit, int dampness, boolean isSold) {
        GrainSilo silo = Silos.of(dampness, 20);
        silo.setLimit(limit);
        silo.letOut();
        dueDampness("behind letOut()", silo, 20);
        due("sold() of " + dampness + ", the limit at " + limit, isSold ? 1 : 0, silo.sold());
        due("spoilt() of " + dampness + ", the limit at " + limit, isSold ? 0 : 1, silo.spoilt());
    }

    @Sentence(of = "Promise 3", says = "All others have a number 1 less then.")
    void promise3OthersHaveANumber1Less() {
        GrainSilo silo = Silos.twelve();
        silo.letOut();
        dueDampness("of twelve", silo, 2, 3, 4, 5, 6, 7, 8, 9, 10, 11, 12);
        dueKinds("of twelve", silo, 1, 2, 3, 4, 0, 1, 2, 3, 4, 0, 1);
        GrainSilo two = Silos.of(9, 5);
        two.letOut();
        dueDampness("of two", two, 5);
        dueKinds("of two", two, 1);
        two.letOut();
        dueDampness("of the last one", two);
        GrainSilo sampled = Silos.of(9, 5, 7, 3);
        sampled.draw(1, 1);
        sampled.draw(3, 3);
        sampled.letOut();
        dueSample("of what was layer 1", sampled, 0, 0, 0, 5, 0);
        dueSample("of what was layer 3", sampled, 1, 2, 2, 3, 0);
        dueRange("of what was layer 1", sampled, 0, 5, 5);
        dueRange("not drawn of", sampled, 1, 0, 40);
        dueRange("of what was layer 3", sampled, 2, 3, 3);
    }

    @Sentence(of = "Promise 3", says = "Samples of this layer alone are gone;")
    void promise3SamplesOfThisLayerAloneAreGone() {
        GrainSilo silo = Silos.of(5, 6, 7);
        silo.draw(0, 0);
        silo.draw(1, 2);
        silo.draw(0, 0);
        silo.draw(2, 2);
        silo.draw(0, 0);
        silo.letOut();
        due("samples() where the first, the last and one between are gone", 2, silo.samples());
        dueSample("not of it", silo, 0, 0, 1, 13, 0);
        dueSample("not of it", silo, 1, 1, 1, 7, 0);
        GrainSilo all = Silos.of(5, 6);
        Silos.drawSixteen(all, 0, 0);
        all.letOut();
        due("samples() where all sixteen are gone", 0, all.samples());
        dueRange("what is left, not drawn of", all, 0, 0, 40);
        GrainSilo none = Silos.of(5, 6);
        Silos.drawSixteen(none, 1, 1);
        none.letOut();
        due("samples() where all sixteen are of another layer", 16, none.samples());
        GrainSilo last = Silos.one();
        last.letOut();
        due("samples() of no layers", 0, last.samples());
        GrainSilo cut = Silos.of(5, 6);
        cut.draw(0, 1);
        cut.letOut();
        due("samples(), of its other layer", 1, cut.samples());
        cut.letOut();
        due("samples(), which was of this layer alone by then", 0, cut.samples());
    }

    @Sentence(of = "Promise 3",
            says = "others of it tell a sum that is as much less as it was damp now, of their other layers;")
    void promise3OthersOfItTellASumOfTheirOtherLayers() {
        GrainSilo silo = Silos.of(10, 20, 30);
        silo.draw(0, 1);
        silo.draw(0, 2);
        silo.draw(1, 2);
        silo.pass(1);
        dueDampness("a day later", silo, 11, 20, 29);
        silo.letOut();
        due("samples()", 3, silo.samples());
        dueSample("of it and one more, less by 11", silo, 0, 0, 0, 19, 2);
        dueSample("of it and two more, less by 11", silo, 1, 0, 1, 49, 3);
        dueSample("not of it, no less", silo, 2, 0, 1, 50, 2);
        GrainSilo full = Silos.alike(12, 40);
        Silos.drawSixteen(full, 0, 11);
        full.letOut();
        dueSample("of twelve, less by 40", full, 0, 0, 10, 440, 0);
        dueSample("of twelve, less by 40", full, 15, 0, 10, 440, 0);
        GrainSilo dry = Silos.of(0, 9);
        dry.draw(0, 1);
        dry.letOut();
        dueSample("less by 0", dry, 0, 0, 0, 9, 0);
        GrainSilo below = Silos.of(0, 0);
        below.draw(0, 1);
        below.fill(0, 40);
        below.pass(3);
        below.letOut();
        dueSample("less by 1 than 0", below, 0, 0, 0, -1, 6);
        dueRange("by a sum of -1 and a doubt of 6", below, 0, 0, 5);
    }

    @Sentence(of = "Promise 3", says = "their doubt stays.")
    void promise3TheirDoubtStays() {
        GrainSilo silo = Silos.of(5, 6, 7);
        silo.draw(0, 1);
        silo.draw(0, 2);
        silo.draw(1, 1);
        silo.pass(3);
        silo.letOut();
        due("doubtOf(0), of two layers for three days", 6, silo.doubtOf(0));
        due("doubtOf(1), of three layers for three days", 9, silo.doubtOf(1));
        due("doubtOf(2), not of it", 3, silo.doubtOf(2));
        silo.pass(1);
        due("doubtOf(0), of one layer for one more day", 7, silo.doubtOf(0));
        due("doubtOf(1), of two layers for one more day", 11, silo.doubtOf(1));
        due("doubtOf(2), not of it, one more day", 4, silo.doubtOf(2));
        GrainSilo none = Silos.of(5, 6);
        none.draw(0, 1);
        none.letOut();
        due("doubtOf(0) of no day", 0, none.doubtOf(0));
    }

    @Sentence(of = "Promise 3", says = "Returns how damp it was.")
    void promise3ReturnsHowDampItWas() {
        due("letOut() of 0", 0, Silos.of(0, 40).letOut());
        due("letOut() of 40", 40, Silos.of(40, 0).letOut());
        due("letOut() of the last", 7, Silos.of(7).letOut());
        GrainSilo silo = Silos.of(40, 0);
        silo.pass(3);
        due("letOut() of 40, three days later", 37, silo.letOut());
        due("letOut() of 0, three days later", 3, silo.letOut());
    }

    @Sentence(of = "Promise 3", says = "Throws IllegalStateException if there is none")
    void promise3ThrowsIfThereIsNone() {
        dueRefused("letOut() of a new one", STATE, Silos::empty, GrainSilo::letOut);
        dueRefused("letOut() of an emptied one", STATE, Silos::emptied, GrainSilo::letOut);
        due("letOut() of one layer", 20, Silos.one().letOut());
    }

    // ---- promise 4: turnOver

    @Sentence(of = "Promise 4",
            says = "Turns the silo over: the lowest layer is brought up upon all others, which have a number 1"
            + " less then.")
    void promise4LowestIsBroughtUpUponAllOthers() {
        GrainSilo two = Silos.empty();
        two.fill(4, 9);
        two.fill(2, 30);
        two.turnOver();
        dueDampness("of two", two, 30, 9);
        dueKinds("of two", two, 2, 4);
        due("sold()", 0, two.sold());
        due("spoilt()", 0, two.spoilt());
        due("day()", 0, two.day());
        GrainSilo twelve = Silos.twelve();
        twelve.turnOver();
        dueDampness("of twelve", twelve, 2, 3, 4, 5, 6, 7, 8, 9, 10, 11, 12, 1);
        dueKinds("of twelve", twelve, 1, 2, 3, 4, 0, 1, 2, 3, 4, 0, 1, 0);
        GrainSilo round = Silos.of(7, 8, 9);
        round.turnOver();
        round.turnOver();
        round.turnOver();
        dueDampness("all the way round", round, 7, 8, 9);
        dueKinds("all the way round", round, 0, 1, 2);
        GrainSilo sampled = Silos.of(5, 6, 7, 8);
        sampled.draw(1, 2);
        sampled.draw(3, 3);
        sampled.draw(1, 3);
        sampled.pass(2);
        sampled.turnOver();
        dueSample("of what was layer 1 to 2", sampled, 0, 0, 1, 13, 4);
        dueSample("of what was layer 3", sampled, 1, 2, 2, 8, 2);
        dueSample("of what was layer 1 to 3", sampled, 2, 0, 2, 21, 6);
    }

    @Sentence(of = "Promise 4", says = "Samples of this layer are gone")
    void promise4SamplesOfThisLayerAreGone() {
        GrainSilo silo = Silos.of(5, 6);
        silo.draw(0, 0);
        silo.draw(1, 1);
        silo.draw(0, 0);
        silo.turnOver();
        due("samples(), of the other layer", 1, silo.samples());
        dueSample("of the other layer", silo, 0, 0, 0, 6, 0);
        dueRange("of the other layer", silo, 0, 6, 6);
        dueRange("brought up", silo, 1, 0, 40);
        GrainSilo all = Silos.of(5, 6);
        Silos.drawSixteen(all, 0, 0);
        all.turnOver();
        due("samples() where all sixteen are gone", 0, all.samples());
        GrainSilo none = Silos.of(5, 6);
        Silos.drawSixteen(none, 1, 1);
        none.turnOver();
        due("samples() where none of sixteen is gone", 16, none.samples());
        dueSample("the last of sixteen", none, 15, 0, 0, 6, 0);
    }

    @Sentence(of = "Promise 4", says = "(also those of others with it).")
    void promise4SamplesOfOthersWithItAreGone() {
        GrainSilo silo = Silos.of(5, 6, 7);
        silo.draw(0, 1);
        silo.draw(1, 2);
        silo.draw(0, 2);
        silo.turnOver();
        due("samples(), of both other layers", 1, silo.samples());
        dueSample("of both other layers", silo, 0, 0, 1, 13, 0);
        GrainSilo twelve = Silos.twelve();
        Silos.drawSixteen(twelve, 0, 11);
        twelve.turnOver();
        due("samples() where all sixteen, of all layers, are gone", 0, twelve.samples());
        due("doubt() then", 480, twelve.doubt());
    }

    @Sentence(of = "Promise 4", says = "Returns how many samples are gone.")
    void promise4ReturnsHowManySamplesAreGone() {
        due("turnOver() without samples", 0, Silos.of(5, 6).turnOver());
        GrainSilo silo = Silos.of(5, 6, 7);
        silo.draw(0, 0);
        silo.draw(1, 2);
        silo.draw(0, 2);
        silo.draw(2, 2);
        due("turnOver(), one alone and one with others", 2, silo.turnOver());
        due("turnOver(), one with another", 1, silo.turnOver());
        due("turnOver(), one alone", 1, silo.turnOver());
        due("turnOver() with none left", 0, silo.turnOver());
        GrainSilo all = Silos.of(5, 6);
        Silos.drawSixteen(all, 0, 1);
        due("turnOver(), all sixteen", 16, all.turnOver());
        GrainSilo none = Silos.of(5, 6);
        Silos.drawSixteen(none, 1, 1);
        due("turnOver(), none of sixteen", 0, none.turnOver());
    }

    @Sentence(of = "Promise 4", says = "Throws IllegalStateException if there are fewer than two layers")
    void promise4ThrowsIfThereAreFewerThanTwoLayers() {
        dueRefused("turnOver() of none", STATE, Silos::empty, GrainSilo::turnOver);
        dueRefused("turnOver() of an emptied one", STATE, Silos::emptied, GrainSilo::turnOver);
        dueRefused("turnOver() of one layer", STATE, Silos::one, GrainSilo::turnOver);
        due("turnOver() of two layers", 2, Silos.two().turnOver());
    }

    // ---- promise 5: setLimit

    @Sentence(of = "Promise 5", says = "limit: the limit from now on")
    void promise5LimitFromNowOn() {
        GrainSilo silo = Silos.of(0, 1, 39, 40);
        for (int limit : new int[] {0, 40, 39, 1}) {
            silo.setLimit(limit);
            due("limit() at " + limit, limit, silo.limit());
        }
        due("dampLayers(), the limit at 1", 2, silo.dampLayers());
        GrainSilo sold = Silos.of(10, 20, 10);
        sold.letOut();
        sold.letOut();
        sold.setLimit(0);
        due("sold() stays, whatever the limit is now", 1, sold.sold());
        due("spoilt() stays, whatever the limit is now", 1, sold.spoilt());
        sold.letOut();
        due("spoilt() from now on", 2, sold.spoilt());
    }

    @Sentence(of = "Promise 5", says = "Returns the one before.")
    void promise5ReturnsTheOneBefore() {
        GrainSilo silo = Silos.empty();
        due("setLimit(0)", 14, silo.setLimit(0));
        due("setLimit(40)", 0, silo.setLimit(40));
        due("setLimit(40) once more", 40, silo.setLimit(40));
        due("setLimit(7)", 40, silo.setLimit(7));
        due("setLimit(14)", 7, silo.setLimit(14));
    }

    @Sentence(of = "Promise 5", says = "Throws IllegalArgumentException if limit is not 0 to 40")
    void promise5ThrowsIfLimitIsNot0To40() {
        dueRefusedOutside("setLimit", 0, 40, ARGUMENT, Silos::busy, GrainSilo::setLimit);
        dueRefusedOutside("setLimit", 0, 40, ARGUMENT, Silos::empty, GrainSilo::setLimit);
        due("setLimit(0)", 13, Silos.busy().setLimit(0));
        due("setLimit(40)", 13, Silos.busy().setLimit(40));
    }

    // ---- promise 6: pass

    @Sentence(of = "Promise 6", says = "Lets days go by. - days: how many")
    void promise6DaysGoBy1To50() {
        GrainSilo one = Silos.of(40, 0);
        one.pass(1);
        due("day() behind pass(1)", 1, one.day());
        dueDampness("behind pass(1)", one, 39, 1);
        GrainSilo fifty = Silos.full();
        fifty.pass(50);
        due("day() behind pass(50)", 53, fifty.day());
        GrainSilo single = Silos.full();
        for (int i = 0; i < 50; i++) {
            single.pass(1);
        }
        due("all answers behind pass(50), as behind fifty times pass(1)", Answers.of(single), Answers.of(fifty));
        GrainSilo even = Silos.of(5, 6);
        even.pass(50);
        dueDampness("of an even one, behind pass(50)", even, 5, 6);
        GrainSilo none = Silos.empty();
        none.pass(50);
        due("day() of an empty one", 50, none.day());
    }

    @Sentence(of = "Promise 6", says = "Returns how often a layer gets damper or drier in them.")
    void promise6ReturnsHowOftenALayerGetsDamperOrDrier() {
        due("pass(50) of none", 0, Silos.empty().pass(50));
        due("pass(50) of one", 0, Silos.of(40).pass(50));
        due("pass(50) of an even one", 0, Silos.of(5, 6).pass(50));
        due("pass(1) of 5 and 7", 2, Silos.of(5, 7).pass(1));
        due("pass(1) of 5, 6 and 8, the first of which stays", 2, Silos.of(5, 6, 8).pass(1));
        due("pass(50) of 40 and 0", 40, Silos.of(40, 0).pass(50));
        due("pass(19) of 40 and 0", 38, Silos.of(40, 0).pass(19));
        GrainSilo back = Silos.of(5, 7, 0);
        due("pass(5), where a layer gets damper and then drier", 11, back.pass(5));
        dueDampness("five days later", back, 5, 4, 4);
        due("pass(1) of all twelve",
                12, Silos.of(0, 10, 0, 10, 0, 10, 0, 10, 0, 10, 0, 10).pass(1));
    }

    @Sentence(of = "Promise 6", says = "Throws IllegalArgumentException if days is not 1 to 50")
    void promise6ThrowsIfDaysIsNot1To50() {
        dueRefusedOutside("pass", 1, 50, ARGUMENT, Silos::full, GrainSilo::pass);
        dueRefusedOutside("pass", 1, 50, ARGUMENT, Silos::busy, GrainSilo::pass);
        dueRefusedOutside("pass", 1, 50, ARGUMENT, Silos::empty, GrainSilo::pass);
        GrainSilo silo = Silos.alike(2, 5);
        due("pass(1)", 0, silo.pass(1));
        due("pass(50)", 0, silo.pass(50));
    }
}
