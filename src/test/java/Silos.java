import java.lang.reflect.Field;
import java.util.Arrays;

/** Silos for tests; each call makes a new one, and the same one each time. */
final class Silos {
    private Silos() {
    }

    static GrainSilo empty() {
        return new GrainSilo();
    }

    /** Layers so damp, of kinds 0, 1, 2, 3, 4, 0, 1, .. */
    static GrainSilo of(int... dampness) {
        GrainSilo silo = new GrainSilo();
        for (int layer = 0; layer < dampness.length; layer++) {
            silo.fill(layer % 5, dampness[layer]);
        }
        return silo;
    }

    /** Even behind 118 days: a long search has found no twelve layers that take more. */
    static GrainSilo longestKnown() {
        return of(40, 40, 39, 40, 40, 40, 40, 0, 0, 0, 0, 0);
    }

    static GrainSilo twelve() {
        return of(1, 2, 3, 4, 5, 6, 7, 8, 9, 10, 11, 12);
    }

    /** So many layers of one dampness. */
    static GrainSilo alike(int layers, int dampness) {
        int[] row = new int[layers];
        Arrays.fill(row, dampness);
        return of(row);
    }

    /** Layers so damp, each of them drawn alone: the number of a sample is that of its layer. */
    static GrainSilo looked(int... dampness) {
        GrainSilo silo = of(dampness);
        for (int layer = 0; layer < dampness.length; layer++) {
            silo.draw(layer, layer);
        }
        return silo;
    }

    /** No layers and no samples left; all else that is told is told by another number than at first. */
    static GrainSilo emptied() {
        GrainSilo silo = of(5, 30);
        silo.draw(0, 1);
        silo.pass(1);
        silo.setLimit(9);
        silo.letOut();
        silo.letOut();
        return silo;
    }

    static GrainSilo one() {
        GrainSilo silo = of(20);
        silo.draw(0, 0);
        silo.pass(2);
        return silo;
    }

    static GrainSilo two() {
        GrainSilo silo = of(3, 40);
        silo.draw(0, 0);
        silo.pass(2);
        silo.draw(0, 1);
        return silo;
    }

    /** Five layers and four samples; all else that is told is told by another number than at first. */
    static GrainSilo busy() {
        GrainSilo silo = of(10, 20, 30, 25, 3, 40, 0);
        silo.setLimit(13);
        silo.letOut();
        silo.letOut();
        silo.draw(0, 2);
        silo.draw(1, 1);
        silo.pass(3);
        silo.draw(2, 4);
        silo.draw(3, 4);
        return silo;
    }

    /** As many layers and as many samples as can be, none of them without doubt. */
    static GrainSilo full() {
        GrainSilo silo = of(5, 33);
        silo.letOut();
        silo.letOut();
        int[] dampness = {12, 20, 8, 31, 14, 40, 0, 0, 17, 22, 39, 5};
        for (int layer = 0; layer < dampness.length; layer++) {
            silo.fill((layer + 2) % 5, dampness[layer]);
        }
        drawEight(silo, 2);
        silo.pass(2);
        drawEight(silo, 0);
        silo.pass(1);
        silo.setLimit(17);
        return silo;
    }

    private static void drawEight(GrainSilo silo, int longer) {
        for (int i = 0; i < 8; i++) {
            silo.draw(i, i + longer);
        }
    }

    static void drawSixteen(GrainSilo silo, int from, int to) {
        for (int i = 0; i < 16; i++) {
            silo.draw(from, to);
        }
    }

    /** No layers of up to 40 are known to take 200 days, so that a dampness that cannot be is written in. */
    static GrainSilo overDamp(int dampness) {
        GrainSilo silo = of(40, 0);
        try {
            Field row = GrainSilo.class.getDeclaredField("dampness");
            row.setAccessible(true);
            ((int[]) row.get(silo))[0] = dampness;
        } catch (ReflectiveOperationException e) {
            throw new IllegalStateException("the program holds the dampness in another way now: mend this test", e);
        }
        return silo;
    }
}
