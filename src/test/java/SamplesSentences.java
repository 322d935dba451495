/** The sentences of promises 7 to 13. */
final class SamplesSentences extends Sentences {

    /** Three samples of four layers, drawn three, one and no days ago. */
    private static GrainSilo three() {
        GrainSilo silo = Silos.of(5, 6, 7, 8);
        silo.draw(0, 0);
        silo.pass(2);
        silo.draw(1, 3);
        silo.pass(1);
        silo.draw(2, 3);
        return silo;
    }

    // ---- promise 7: draw

    @Sentence(of = "Promise 7", says = "Draws a sample. - from: the lowest layer of it - to: the highest one")
    void promise7SampleIsDrawnOfLayersFromTo() {
        GrainSilo silo = Silos.twelve();
        silo.draw(0, 0);
        silo.draw(11, 11);
        silo.draw(0, 11);
        silo.draw(10, 11);
        due("samples()", 4, silo.samples());
        dueSample("of the lowest one", silo, 0, 0, 0, 1, 0);
        dueSample("of the highest one", silo, 1, 11, 11, 12, 0);
        dueSample("of all", silo, 2, 0, 11, 78, 0);
        dueSample("of the two highest ones", silo, 3, 10, 11, 23, 0);
        dueRange("by them", silo, 0, 1, 1);
        dueRange("by them", silo, 10, 11, 11);
        dueRange("by them", silo, 11, 12, 12);
        dueRange("by them, 54 in nine", silo, 5, 0, 40);
        GrainSilo one = Silos.of(7);
        one.draw(0, 0);
        dueSample("of the only layer", one, 0, 0, 0, 7, 0);
        one.draw(0, 0);
        dueSample("of the only layer, once more", one, 1, 0, 0, 7, 0);
    }

    @Sentence(of = "Promise 7", says = "Returns its sum.")
    void promise7ReturnsItsSum() {
        due("draw of all twelve, 40 each", 480, Silos.alike(12, 40).draw(0, 11));
        due("draw of all twelve, 0 each", 0, Silos.alike(12, 0).draw(0, 11));
        due("draw of one, 40", 40, Silos.of(40).draw(0, 0));
        GrainSilo silo = Silos.of(12, 20, 8, 31, 14);
        due("draw(0, 2)", 40, silo.draw(0, 2));
        due("draw(1, 3)", 59, silo.draw(1, 3));
        due("draw(2, 2)", 8, silo.draw(2, 2));
        due("draw(4, 4)", 14, silo.draw(4, 4));
        silo.pass(1);
        due("draw(2, 2) a day later", 9, silo.draw(2, 2));
        GrainSilo sixteen = Silos.of(9);
        for (int i = 0; i < 16; i++) {
            due("draw(0, 0) of sample " + i, 9, sixteen.draw(0, 0));
        }
    }

    @Sentence(of = "Promise 7",
            says = "Throws IndexOutOfBoundsException if there are no such layers, or from is greater than to")
    void promise7ThrowsIfThereAreNoSuchLayers() {
        dueRefusedOfNoLayers("draw", GrainSilo::draw);
        GrainSilo silo = Silos.of(12, 20, 8, 31, 14);
        due("draw(0, 0), the lowest one", 12, silo.draw(0, 0));
        due("draw(4, 4), the highest one", 14, silo.draw(4, 4));
        due("draw(0, 4), all", 85, silo.draw(0, 4));
    }

    @Sentence(of = "Promise 7", says = "Throws IllegalStateException if there are 16 samples")
    void promise7ThrowsIfThereAre16Samples() {
        dueRefused("draw(0, 0) of the 17th", STATE, Silos::full, silo -> silo.draw(0, 0));
        dueRefused("draw(0, 11) of the 17th", STATE, Silos::full, silo -> silo.draw(0, 11));
        dueRefused("draw(11, 11) of the 17th", STATE, Silos::full, silo -> silo.draw(11, 11));
        GrainSilo silo = Silos.of(3, 4);
        Silos.drawSixteen(silo, 0, 1);
        silo.throwAway(15);
        due("draw of the 16th once more", 4, silo.draw(1, 1));
        due("samples()", 16, silo.samples());
        due("draw of the 17th", "throws java.lang.IllegalStateException", Checks.answerOf(() -> silo.draw(1, 1)));
        GrainSilo freed = Silos.of(3, 4);
        Silos.drawSixteen(freed, 0, 0);
        freed.turnOver();
        due("draw, where all sixteen are gone", 7, freed.draw(0, 1));
    }

    // ---- promise 8: throwAway

    @Sentence(of = "Promise 8",
            says = "Throws a sample away; those behind it have a number 1 less then. - sample: the sample")
    void promise8ThoseBehindHaveANumber1Less() {
        GrainSilo first = three();
        first.throwAway(0);
        dueSample("behind the first, thrown away", first, 0, 1, 3, 21, 3);
        dueSample("behind the first, thrown away", first, 1, 2, 3, 15, 0);
        GrainSilo second = three();
        second.throwAway(1);
        dueSample("ahead of the second, thrown away", second, 0, 0, 0, 5, 3);
        dueSample("behind the second, thrown away", second, 1, 2, 3, 15, 0);
        GrainSilo last = three();
        last.throwAway(2);
        due("samples()", 2, last.samples());
        dueSample("ahead of the last, thrown away", last, 0, 0, 0, 5, 3);
        dueSample("ahead of the last, thrown away", last, 1, 1, 3, 21, 3);
        GrainSilo only = Silos.looked(7);
        only.throwAway(0);
        due("samples(), the only one thrown away", 0, only.samples());
        dueRange("the only one thrown away", only, 0, 0, 40);
        dueSixteenMoveUp();
    }

    private void dueSixteenMoveUp() {
        GrainSilo silo = Silos.twelve();
        for (int sample = 0; sample < 16; sample++) {
            silo.draw(sample % 12, sample % 12);
        }
        silo.throwAway(0);
        for (int sample = 0; sample < 15; sample++) {
            due("lowestOf(" + sample + "), the first of sixteen thrown away", (sample + 1) % 12, silo.lowestOf(sample));
        }
        silo.throwAway(14);
        for (int sample = 0; sample < 14; sample++) {
            due("lowestOf(" + sample + "), the last too", (sample + 1) % 12, silo.lowestOf(sample));
        }
    }

    @Sentence(of = "Promise 8", says = "Returns how many samples there are then.")
    void promise8ReturnsHowManyThereAreThen() {
        GrainSilo silo = Silos.of(7);
        Silos.drawSixteen(silo, 0, 0);
        due("throwAway(15) of sixteen", 15, silo.throwAway(15));
        for (int left = 14; left >= 0; left--) {
            due("throwAway(0)", left, silo.throwAway(0));
        }
        due("samples()", 0, silo.samples());
    }

    @Sentence(of = "Promise 8", says = "Throws IndexOutOfBoundsException if there is no such sample")
    void promise8ThrowsIfThereIsNoSuchSample() {
        dueRefusedOfNoSample("throwAway", GrainSilo::throwAway);
        GrainSilo silo = three();
        silo.throwAway(2);
        due("throwAway(2) once more", "throws java.lang.IndexOutOfBoundsException",
                Checks.answerOf(() -> silo.throwAway(2)));
    }

    // ---- promises 9 to 13: what a sample is

    @Sentence(of = "Promise 9", says = "Returns how many samples there are.")
    void promise9ReturnsHowManySamplesFrom0To16() {
        GrainSilo silo = Silos.of(3, 4);
        for (int drawn = 0; drawn < 16; drawn++) {
            due("samples() of " + drawn, drawn, silo.samples());
            silo.draw(0, drawn % 2);
        }
        due("samples() of sixteen", 16, silo.samples());
        silo.letOut();
        due("samples(), half of them gone", 8, silo.samples());
        silo.throwAway(7);
        due("samples(), one thrown away", 7, silo.samples());
        due("samples() without layers", 0, Silos.empty().samples());
    }

    @Sentence(of = "Promise 10", says = "sample: a sample Returns the lowest layer of it.")
    void promise10ReturnsTheLowestLayer() {
        GrainSilo silo = Silos.twelve();
        silo.draw(0, 11);
        silo.draw(11, 11);
        silo.draw(3, 7);
        due("lowestOf(0)", 0, silo.lowestOf(0));
        due("lowestOf(1)", 11, silo.lowestOf(1));
        due("lowestOf(2)", 3, silo.lowestOf(2));
        silo.letOut();
        due("lowestOf(0), where it was the lowest", 0, silo.lowestOf(0));
        due("lowestOf(1), where another was", 10, silo.lowestOf(1));
        due("lowestOf(2), where another was", 2, silo.lowestOf(2));
    }

    @Sentence(of = "Promise 10", says = "Throws IndexOutOfBoundsException if there is no such sample")
    void promise10ThrowsIfThereIsNoSuchSample() {
        dueRefusedOfNoSample("lowestOf", GrainSilo::lowestOf);
    }

    @Sentence(of = "Promise 11", says = "sample: a sample Returns the highest layer of it.")
    void promise11ReturnsTheHighestLayer() {
        GrainSilo silo = Silos.twelve();
        silo.draw(0, 11);
        silo.draw(0, 0);
        silo.draw(3, 7);
        silo.draw(0, 1);
        due("highestOf(0)", 11, silo.highestOf(0));
        due("highestOf(1)", 0, silo.highestOf(1));
        due("highestOf(2)", 7, silo.highestOf(2));
        due("highestOf(3)", 1, silo.highestOf(3));
        silo.letOut();
        due("highestOf(0), where the lowest is gone", 10, silo.highestOf(0));
        due("highestOf(1), where another is gone", 6, silo.highestOf(1));
        due("highestOf(2), where the lowest is gone", 0, silo.highestOf(2));
    }

    @Sentence(of = "Promise 11", says = "Throws IndexOutOfBoundsException if there is no such sample")
    void promise11ThrowsIfThereIsNoSuchSample() {
        dueRefusedOfNoSample("highestOf", GrainSilo::highestOf);
    }

    @Sentence(of = "Promise 12", says = "sample: a sample Returns its sum.")
    void promise12ReturnsItsSumAsDrawn() {
        GrainSilo silo = Silos.alike(11, 40);
        silo.fill(0, 0);
        silo.draw(0, 10);
        silo.draw(11, 11);
        silo.draw(10, 11);
        silo.pass(3);
        due("sumOf(0), three days later", 440, silo.sumOf(0));
        due("sumOf(1), three days later", 0, silo.sumOf(1));
        due("sumOf(2), three days later", 40, silo.sumOf(2));
    }

    @Sentence(of = "Promise 12", says = "Throws IndexOutOfBoundsException if there is no such sample")
    void promise12ThrowsIfThereIsNoSuchSample() {
        dueRefusedOfNoSample("sumOf", GrainSilo::sumOf);
    }

    @Sentence(of = "Promise 13", says = "sample: a sample Returns its doubt.")
    void promise13ReturnsItsDoubt() {
        GrainSilo silo = three();
        due("doubtOf(0), of one layer three days ago", 3, silo.doubtOf(0));
        due("doubtOf(1), of three layers a day ago", 3, silo.doubtOf(1));
        due("doubtOf(2), of two layers now", 0, silo.doubtOf(2));
        silo.pass(50);
        due("doubtOf(0), fifty days later", 53, silo.doubtOf(0));
        due("doubtOf(1), fifty days later", 153, silo.doubtOf(1));
        due("doubtOf(2), fifty days later", 100, silo.doubtOf(2));
    }

    @Sentence(of = "Promise 13", says = "Throws IndexOutOfBoundsException if there is no such sample")
    void promise13ThrowsIfThereIsNoSuchSample() {
        dueRefusedOfNoSample("doubtOf", GrainSilo::doubtOf);
    }
}
