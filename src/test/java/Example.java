public final class Example {
    public static void main(String[] args) {
        GrainSilo silo = new GrainSilo();
        silo.fill(0, 12);                              // layer 0: grain of kind 0, 12 damp
        silo.fill(1, 20);                              // layer 1, upon it
        silo.fill(2, 31);                              // layer 2, upon both

        System.out.println(silo.draw(0, 1));           // 32: sample 0 tells the sum of layers 0 and 1
        System.out.println(silo.greatestOf(1));        // 32: by that sample; it is 20, but this is not known yet
        System.out.println(silo.greatestSum(1, 2));    // 72: nothing is told of layer 2, which could be 40
        System.out.println(silo.draw(1, 1));           // 20: sample 1 tells of layer 1 alone
        System.out.println(silo.isKnown(0));           // true: 32 less 20 is left for it
        System.out.println(silo.doubt());              // 40: all of it of layer 2
        System.out.println(silo.bestToLookAt());       // 2: a sample of layer 2 would leave the least doubt
        System.out.println(silo.doubtBehind(2, 2));    // 0: with it, all would be known

        System.out.println(silo.dampnessIn(0, 1));     // 13: it gets damper from the layer above
        System.out.println(silo.pass(1));              // 2: layer 0 got damper, layer 2 drier
        System.out.println(silo.doubtOf(0));           // 2: a day, for each of two layers
        System.out.println(silo.leastOf(0));           // 9: at the least 32 less 2, less at the most 20 and 1
        System.out.println(silo.greatestOf(0));        // 15: at the most 32 and 2, less at the least 20 less 1

        System.out.println(silo.letOut());             // 13: the lowest layer, which is not above the limit of 14
        System.out.println(silo.sold());               // 1: so that it is sold
        System.out.println(silo.layersAheadOf(2));     // 1: the other layers have a number 1 less now
        System.out.println(silo.sumOf(0));             // 19: what sample 0 told, less the 13 that are gone
        System.out.println(silo.daysUntilEven());      // 5: from 20 and 30 to 25 and 25
        System.out.println(silo.meanDampness());       // 25.0: of both layers
        try {
            silo.kindOf(2);
        } catch (IndexOutOfBoundsException refused) {
            System.out.println("no such layer");       // no such layer: they are 0 and 1
        }
    }
}
