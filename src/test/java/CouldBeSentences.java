/** The sentences of promises 23 to 31. */
final class CouldBeSentences extends Sentences {

    // ---- promises 23 to 25: of one layer

    @Sentence(of = "Promise 23", says = "layer: a layer Returns its least dampness.")
    void promise23ReturnsItsLeastDampness() {
        due("leastOf(0) of an unknown one", 0, Silos.of(40).leastOf(0));
        due("leastOf(11) of twelve unknown ones", 0, Silos.alike(12, 40).leastOf(11));
        due("leastOf(0) of a known one", 40, Silos.looked(40).leastOf(0));
        due("leastOf(0) of a known one", 0, Silos.looked(0).leastOf(0));
        GrainSilo silo = Silos.of(40, 40, 39);
        silo.draw(0, 2);
        due("leastOf(0) of 119 in three", 39, silo.leastOf(0));
        due("leastOf(2) of 119 in three", 39, silo.leastOf(2));
        silo.pass(1);
        due("leastOf(0) of 119 in three and a doubt of 3", 36, silo.leastOf(0));
        GrainSilo many = Silos.looked(20);
        many.pass(3);
        many.draw(0, 0);
        many.pass(2);
        many.draw(0, 0);
        many.pass(1);
        due("leastOf(0), which the newest of three tells", 19, many.leastOf(0));
        many.throwAway(2);
        due("leastOf(0), which the newest of two tells", 17, many.leastOf(0));
        many.throwAway(1);
        due("leastOf(0), which the only one tells", 14, many.leastOf(0));
        many.throwAway(0);
        due("leastOf(0), which none tells", 0, many.leastOf(0));
    }

    @Sentence(of = "Promise 23", says = "Throws IndexOutOfBoundsException if there is no such layer")
    void promise23ThrowsIfThereIsNoSuchLayer() {
        dueRefusedOfNoLayer("leastOf", GrainSilo::leastOf);
    }

    @Sentence(of = "Promise 24", says = "layer: a layer Returns its greatest dampness.")
    void promise24ReturnsItsGreatestDampness() {
        due("greatestOf(0) of an unknown one", 40, Silos.of(0).greatestOf(0));
        due("greatestOf(11) of twelve unknown ones", 40, Silos.alike(12, 0).greatestOf(11));
        due("greatestOf(0) of a known one", 0, Silos.looked(0).greatestOf(0));
        due("greatestOf(0) of a known one", 40, Silos.looked(40).greatestOf(0));
        GrainSilo silo = Silos.of(0, 0, 1);
        silo.draw(0, 2);
        due("greatestOf(0) of 1 in three", 1, silo.greatestOf(0));
        due("greatestOf(2) of 1 in three", 1, silo.greatestOf(2));
        silo.pass(1);
        due("greatestOf(0) of 1 in three and a doubt of 3", 4, silo.greatestOf(0));
        GrainSilo many = Silos.looked(20);
        many.pass(3);
        many.draw(0, 0);
        many.pass(2);
        many.draw(0, 0);
        many.pass(1);
        due("greatestOf(0), which the newest of three tells", 21, many.greatestOf(0));
        many.throwAway(2);
        due("greatestOf(0), which the newest of two tells", 23, many.greatestOf(0));
        many.throwAway(1);
        due("greatestOf(0), which the only one tells", 26, many.greatestOf(0));
        many.throwAway(0);
        due("greatestOf(0), which none tells", 40, many.greatestOf(0));
    }

    @Sentence(of = "Promise 24", says = "Throws IndexOutOfBoundsException if there is no such layer")
    void promise24ThrowsIfThereIsNoSuchLayer() {
        dueRefusedOfNoLayer("greatestOf", GrainSilo::greatestOf);
    }

    @Sentence(of = "Promise 25", says = "layer: a layer Returns whether it is known.")
    void promise25ReturnsWhetherItIsKnown() {
        due("isKnown(0) without samples", false, Silos.of(5).isKnown(0));
        due("isKnown(0), drawn now", true, Silos.looked(5).isKnown(0));
        GrainSilo older = Silos.looked(5);
        older.pass(1);
        due("isKnown(0), drawn a day ago", false, older.isKnown(0));
        GrainSilo twelve = Silos.twelve();
        twelve.draw(0, 11);
        twelve.draw(0, 10);
        due("isKnown(11), told by two", true, twelve.isKnown(11));
        due("isKnown(10)", false, twelve.isKnown(10));
        due("isKnown(0)", false, twelve.isKnown(0));
        GrainSilo two = Silos.of(39, 40);
        two.draw(0, 1);
        due("isKnown(0) of 39 to 40", false, two.isKnown(0));
    }

    @Sentence(of = "Promise 25", says = "Throws IndexOutOfBoundsException if there is no such layer")
    void promise25ThrowsIfThereIsNoSuchLayer() {
        dueRefusedOfNoLayer("isKnown", GrainSilo::isKnown);
    }

    // ---- promises 26 to 29: of all layers

    @Sentence(of = "Promise 26", says = "Returns how many layers are surely dry.")
    void promise26ReturnsHowManyAreSurelyDry() {
        due("surelyDry() of none", 0, Silos.empty().surelyDry());
        due("surelyDry() of twelve unknown ones", 0, Silos.alike(12, 0).surelyDry());
        GrainSilo any = Silos.alike(12, 40);
        any.setLimit(40);
        due("surelyDry() of twelve unknown ones, the limit at 40", 12, any.surelyDry());
        due("surelyDry() of 13, 14 and 15, all known", 2, Silos.looked(13, 14, 15).surelyDry());
        due("surelyDry() of twelve at the limit, all known",
                12, Silos.looked(14, 14, 14, 14, 14, 14, 14, 14, 14, 14, 14, 14).surelyDry());
        GrainSilo silo = Silos.looked(13);
        silo.pass(1);
        due("surelyDry() of 12 to 14", 1, silo.surelyDry());
        silo.pass(1);
        due("surelyDry() of 11 to 15", 0, silo.surelyDry());
    }

    @Sentence(of = "Promise 27", says = "Returns how many layers are surely damp.")
    void promise27ReturnsHowManyAreSurelyDamp() {
        due("surelyDamp() of none", 0, Silos.empty().surelyDamp());
        GrainSilo any = Silos.alike(12, 40);
        any.setLimit(0);
        due("surelyDamp() of twelve unknown ones, the limit at 0", 0, any.surelyDamp());
        due("surelyDamp() of 14, 15 and 16, all known", 2, Silos.looked(14, 15, 16).surelyDamp());
        due("surelyDamp() of twelve 1 above the limit, all known",
                12, Silos.looked(15, 15, 15, 15, 15, 15, 15, 15, 15, 15, 15, 15).surelyDamp());
        GrainSilo silo = Silos.looked(16);
        silo.pass(1);
        due("surelyDamp() of 15 to 17", 1, silo.surelyDamp());
        silo.pass(1);
        due("surelyDamp() of 14 to 18", 0, silo.surelyDamp());
    }

    @Sentence(of = "Promise 28",
            says = "Returns the layer that could be the worst: with the greatest greatest dampness,")
    void promise28ReturnsTheOneWithTheGreatestGreatest() {
        due("worstLayer() of one", 0, Silos.of(0).worstLayer());
        due("worstLayer(), the lowest one", 0, Silos.looked(31, 30, 30).worstLayer());
        due("worstLayer(), the middle one", 1, Silos.looked(30, 31, 30).worstLayer());
        due("worstLayer(), the highest one", 2, Silos.looked(30, 30, 31).worstLayer());
        due("worstLayer(), the highest one of twelve",
                11, Silos.looked(1, 2, 3, 4, 5, 6, 7, 8, 9, 10, 11, 12).worstLayer());
        due("worstLayer() of 0 alone", 0, Silos.looked(0).worstLayer());
        GrainSilo unknown = Silos.looked(39, 38, 37);
        unknown.throwAway(1);
        due("worstLayer(), the only unknown one", 1, unknown.worstLayer());
        GrainSilo older = Silos.of(20, 21);
        older.draw(0, 0);
        older.pass(2);
        older.draw(1, 1);
        dueRange("two days ago", older, 0, 18, 22);
        dueRange("now", older, 1, 21, 21);
        due("worstLayer(), which is the drier one", 0, older.worstLayer());
    }

    @Sentence(of = "Promise 28", says = "of several the lowest one.")
    void promise28ReturnsOfSeveralTheLowestOne() {
        due("worstLayer() of twelve unknown ones", 0, Silos.twelve().worstLayer());
        due("worstLayer(), all equal", 0, Silos.looked(5, 5, 5).worstLayer());
        due("worstLayer(), the lower two equal", 0, Silos.looked(30, 30, 29).worstLayer());
        due("worstLayer(), the upper two equal", 1, Silos.looked(29, 30, 30).worstLayer());
        due("worstLayer(), the lowest and the highest equal", 0, Silos.looked(30, 29, 30).worstLayer());
        due("worstLayer(), all 0", 0, Silos.looked(0, 0).worstLayer());
        GrainSilo end = Silos.of(39, 40);
        end.draw(0, 0);
        end.pass(1);
        end.draw(1, 1);
        due("worstLayer() of 38 to 40 and of 40", 0, end.worstLayer());
    }

    @Sentence(of = "Promise 28", says = "Throws IllegalStateException if there are no layers")
    void promise28ThrowsIfThereAreNoLayers() {
        dueRefused("worstLayer() of a new one", STATE, Silos::empty, GrainSilo::worstLayer);
        dueRefused("worstLayer() of an emptied one", STATE, Silos::emptied, GrainSilo::worstLayer);
        due("worstLayer() of one layer", 0, Silos.one().worstLayer());
    }

    @Sentence(of = "Promise 29", says = "Returns the doubt of the silo.")
    void promise29ReturnsTheDoubtOfTheSilo() {
        due("doubt() of none", 0, Silos.empty().doubt());
        due("doubt() of an emptied one", 0, Silos.emptied().doubt());
        due("doubt() of one unknown layer", 40, Silos.of(0).doubt());
        due("doubt() of twelve unknown layers", 480, Silos.twelve().doubt());
        GrainSilo known = Silos.looked(1, 2, 3, 4, 5, 6, 7, 8, 9, 10, 11, 12);
        due("doubt() of twelve known layers", 0, known.doubt());
        known.pass(1);
        due("doubt() of twelve, a day later, the first at 0 to 2", 24, known.doubt());
        known.pass(1);
        due("doubt() of twelve, two days later, the first at 0 to 3", 47, known.doubt());
        known.pass(50);
        due("doubt() of twelve, fifty-two days later", 480, known.doubt());
    }

    // ---- promises 30 and 31: of some layers

    @Sentence(of = "Promise 30",
            says = "from: the lowest layer of some - to: the highest one Returns the least sum that a sample "
            + "of them could tell now.")
    void promise30ReturnsTheLeastSum() {
        due("leastSum(0, 11) of twelve unknown ones", 0, Silos.alike(12, 40).leastSum(0, 11));
        GrainSilo damp = Silos.alike(12, 40);
        damp.draw(0, 11);
        due("leastSum(0, 11) of 480 in twelve", 480, damp.leastSum(0, 11));
        due("leastSum(0, 0) of 480 in twelve", 40, damp.leastSum(0, 0));
        due("leastSum(11, 11) of 480 in twelve", 40, damp.leastSum(11, 11));
        due("leastSum(3, 8) of 480 in twelve", 240, damp.leastSum(3, 8));
        GrainSilo silo = Silos.of(20, 20, 7);
        silo.draw(0, 1);
        due("leastSum(0, 1), of two that are each 0 at the least", 40, silo.leastSum(0, 1));
        due("leastSum(0, 0)", 0, silo.leastSum(0, 0));
        due("leastSum(0, 2), one more", 40, silo.leastSum(0, 2));
        due("leastSum(1, 2), one of the two and another", 0, silo.leastSum(1, 2));
        silo.pass(1);
        due("leastSum(0, 1), a day later", 38, silo.leastSum(0, 1));
        GrainSilo one = Silos.looked(20);
        one.pass(20);
        due("leastSum(0, 0), twenty days later", 0, one.leastSum(0, 0));
        one.pass(1);
        due("leastSum(0, 0), no less than 0", 0, one.leastSum(0, 0));
    }

    @Sentence(of = "Promise 30",
            says = "Throws IndexOutOfBoundsException if there are no such layers, or from is greater than to")
    void promise30ThrowsIfThereAreNoSuchLayers() {
        dueRefusedOfNoLayers("leastSum", GrainSilo::leastSum);
    }

    @Sentence(of = "Promise 31",
            says = "from: the lowest layer of some - to: the highest one Returns the greatest sum that a "
            + "sample of them could tell now.")
    void promise31ReturnsTheGreatestSum() {
        due("greatestSum(0, 11) of twelve unknown ones", 480, Silos.alike(12, 0).greatestSum(0, 11));
        GrainSilo dry = Silos.alike(12, 0);
        dry.draw(0, 11);
        due("greatestSum(0, 11) of 0 in twelve", 0, dry.greatestSum(0, 11));
        due("greatestSum(0, 0) of 0 in twelve", 0, dry.greatestSum(0, 0));
        due("greatestSum(11, 11) of 0 in twelve", 0, dry.greatestSum(11, 11));
        due("greatestSum(3, 8) of 0 in twelve", 0, dry.greatestSum(3, 8));
        GrainSilo silo = Silos.of(20, 20, 7);
        silo.draw(0, 1);
        due("greatestSum(0, 1), of two that are each 40 at the most", 40, silo.greatestSum(0, 1));
        due("greatestSum(0, 0)", 40, silo.greatestSum(0, 0));
        due("greatestSum(0, 2), one more", 80, silo.greatestSum(0, 2));
        due("greatestSum(1, 2), one of the two and another", 80, silo.greatestSum(1, 2));
        silo.pass(1);
        due("greatestSum(0, 1), a day later", 42, silo.greatestSum(0, 1));
        GrainSilo one = Silos.looked(20);
        one.pass(20);
        due("greatestSum(0, 0), twenty days later", 40, one.greatestSum(0, 0));
        one.pass(1);
        due("greatestSum(0, 0), no more than 40", 40, one.greatestSum(0, 0));
    }

    @Sentence(of = "Promise 31",
            says = "Throws IndexOutOfBoundsException if there are no such layers, or from is greater than to")
    void promise31ThrowsIfThereAreNoSuchLayers() {
        dueRefusedOfNoLayers("greatestSum", GrainSilo::greatestSum);
    }
}
