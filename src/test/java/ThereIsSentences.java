/** The sentences of promises 14 to 22. */
final class ThereIsSentences extends Sentences {

    @Sentence(of = "Promise 14", says = "Returns how many layers there are.")
    void promise14ReturnsHowManyLayersFrom0To12() {
        GrainSilo silo = Silos.empty();
        for (int filled = 0; filled < 12; filled++) {
            due("layers() of " + filled, filled, silo.layers());
            silo.fill(0, filled);
        }
        due("layers() of twelve", 12, silo.layers());
        silo.turnOver();
        due("layers() behind turnOver()", 12, silo.layers());
        for (int left = 11; left >= 0; left--) {
            silo.letOut();
            due("layers() behind letOut()", left, silo.layers());
        }
    }

    @Sentence(of = "Promise 15", says = "Returns how many days went by.")
    void promise15ReturnsHowManyDaysWentBy() {
        GrainSilo silo = Silos.empty();
        due("day() at first", 0, silo.day());
        silo.pass(1);
        due("day() behind pass(1)", 1, silo.day());
        silo.pass(50);
        due("day() behind pass(50)", 51, silo.day());
        silo.fill(0, 7);
        silo.dampnessIn(0, 50);
        silo.daysUntilEven();
        silo.letOut();
        due("day() behind calls that let none go by", 51, silo.day());
    }

    @Sentence(of = "Promise 16", says = "Returns the limit.")
    void promise16ReturnsTheLimit() {
        GrainSilo silo = Silos.empty();
        due("limit() at first", 14, silo.limit());
        silo.setLimit(0);
        due("limit() at its least", 0, silo.limit());
        silo.setLimit(40);
        due("limit() at its greatest", 40, silo.limit());
    }

    @Sentence(of = "Promise 17", says = "Returns how many layers were sold in all.")
    void promise17ReturnsHowManyWereSold() {
        GrainSilo silo = Silos.alike(12, 14);
        due("sold() at first", 0, silo.sold());
        for (int sold = 1; sold <= 12; sold++) {
            silo.letOut();
            due("sold()", sold, silo.sold());
        }
        silo.fill(0, 15);
        silo.letOut();
        due("sold() behind one that is spoilt", 12, silo.sold());
        silo.fill(0, 0);
        silo.letOut();
        due("sold() of thirteen in all", 13, silo.sold());
        GrainSilo turned = Silos.of(3, 4);
        turned.turnOver();
        due("sold() behind turnOver()", 0, turned.sold());
    }

    @Sentence(of = "Promise 18", says = "Returns how many layers were spoilt in all.")
    void promise18ReturnsHowManyWereSpoilt() {
        GrainSilo silo = Silos.alike(12, 15);
        due("spoilt() at first", 0, silo.spoilt());
        for (int spoilt = 1; spoilt <= 12; spoilt++) {
            silo.letOut();
            due("spoilt()", spoilt, silo.spoilt());
        }
        silo.fill(0, 14);
        silo.letOut();
        due("spoilt() behind one that is sold", 12, silo.spoilt());
        silo.fill(0, 40);
        silo.letOut();
        due("spoilt() of thirteen in all", 13, silo.spoilt());
        GrainSilo turned = Silos.of(30, 40);
        turned.turnOver();
        due("spoilt() behind turnOver()", 0, turned.spoilt());
    }

    @Sentence(of = "Promise 19", says = "layer: a layer Returns its kind of grain.")
    void promise19ReturnsItsKind() {
        GrainSilo silo = Silos.twelve();
        due("kindOf(0)", 0, silo.kindOf(0));
        due("kindOf(4)", 4, silo.kindOf(4));
        due("kindOf(11)", 1, silo.kindOf(11));
        silo.pass(50);
        due("kindOf(4), fifty days later", 4, silo.kindOf(4));
    }

    @Sentence(of = "Promise 19", says = "Throws IndexOutOfBoundsException if there is no such layer")
    void promise19ThrowsIfThereIsNoSuchLayer() {
        dueRefusedOfNoLayer("kindOf", GrainSilo::kindOf);
    }

    @Sentence(of = "Promise 20", says = "layer: a layer Returns its dampness.")
    void promise20ReturnsItsDampness() {
        GrainSilo silo = Silos.of(0, 40, 39, 38, 37, 36, 35, 34, 33, 32, 31, 0);
        due("dampnessOf(0)", 0, silo.dampnessOf(0));
        due("dampnessOf(1)", 40, silo.dampnessOf(1));
        due("dampnessOf(11)", 0, silo.dampnessOf(11));
        silo.pass(1);
        due("dampnessOf(0), a day later", 1, silo.dampnessOf(0));
        due("dampnessOf(1), a day later", 39, silo.dampnessOf(1));
        due("dampnessOf(11), a day later", 1, silo.dampnessOf(11));
    }

    @Sentence(of = "Promise 20", says = "Throws IndexOutOfBoundsException if there is no such layer")
    void promise20ThrowsIfThereIsNoSuchLayer() {
        dueRefusedOfNoLayer("dampnessOf", GrainSilo::dampnessOf);
    }

    @Sentence(of = "Promise 21", says = "Returns how many layers are damp.")
    void promise21ReturnsHowManyAreDamp() {
        due("dampLayers() of none", 0, Silos.empty().dampLayers());
        due("dampLayers() at the limit", 0, Silos.of(14).dampLayers());
        due("dampLayers() 1 above the limit", 1, Silos.of(15).dampLayers());
        due("dampLayers() of twelve damp ones", 12, Silos.alike(12, 15).dampLayers());
        due("dampLayers() of twelve dry ones", 0, Silos.alike(12, 14).dampLayers());
        GrainSilo ends = Silos.of(40, 0, 0, 40);
        due("dampLayers(), the lowest and the highest", 2, ends.dampLayers());
        ends.letOut();
        due("dampLayers(), the lowest let out", 1, ends.dampLayers());
        ends.letOut();
        ends.letOut();
        ends.letOut();
        due("dampLayers() of an emptied one", 0, ends.dampLayers());
    }

    @Sentence(of = "Promise 22",
            says = "kind: a kind of grain Returns how many layers have to be let out ahead of the first one of"
            + " this kind;")
    void promise22ReturnsHowManyAreAheadOfTheFirst() {
        GrainSilo silo = Silos.empty();
        for (int kind : new int[] {3, 3, 3, 1, 0, 3, 1, 3, 3, 3, 3, 4}) {
            silo.fill(kind, 7);
        }
        due("layersAheadOf(3), the lowest one", 0, silo.layersAheadOf(3));
        due("layersAheadOf(1), the first of two", 3, silo.layersAheadOf(1));
        due("layersAheadOf(0)", 4, silo.layersAheadOf(0));
        due("layersAheadOf(4), the highest one of twelve", 11, silo.layersAheadOf(4));
        silo.letOut();
        due("layersAheadOf(3), the first let out", 0, silo.layersAheadOf(3));
        due("layersAheadOf(4), one let out", 10, silo.layersAheadOf(4));
        silo.letOut();
        silo.letOut();
        silo.turnOver();
        due("layersAheadOf(1), its first brought up", 2, silo.layersAheadOf(1));
    }

    @Sentence(of = "Promise 22", says = "-1 if there is none.")
    void promise22ReturnsMinus1IfThereIsNone() {
        GrainSilo silo = Silos.of(5);
        due("layersAheadOf(0), which is there", 0, silo.layersAheadOf(0));
        for (int kind = 1; kind <= 4; kind++) {
            due("layersAheadOf(" + kind + ") of kind 0 alone", -1, silo.layersAheadOf(kind));
        }
        silo.fill(4, 5);
        silo.letOut();
        due("layersAheadOf(0), let out", -1, silo.layersAheadOf(0));
        due("layersAheadOf(4), which is there", 0, silo.layersAheadOf(4));
        silo.letOut();
        due("layersAheadOf(4) of an emptied one", -1, silo.layersAheadOf(4));
        for (int kind = 0; kind <= 4; kind++) {
            due("layersAheadOf(" + kind + ") of a new one", -1, Silos.empty().layersAheadOf(kind));
        }
    }

    @Sentence(of = "Promise 22", says = "Throws IndexOutOfBoundsException if kind is not 0 to 4")
    void promise22ThrowsIfKindIsNot0To4() {
        dueRefusedOutside("layersAheadOf", 0, 4, INDEX, Silos::full, GrainSilo::layersAheadOf);
        dueRefusedOutside("layersAheadOf", 0, 4, INDEX, Silos::busy, GrainSilo::layersAheadOf);
        dueRefusedOutside("layersAheadOf", 0, 4, INDEX, Silos::empty, GrainSilo::layersAheadOf);
    }
}
