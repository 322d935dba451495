import java.util.Random;
import java.util.function.Supplier;

/** Long runs of drawn calls, each compared with PlainSilo; the seeds stand here, so that every run is the same. */
public final class RandomRunsTest {
    private static final int MOST_STEPS = 220;
    private static final int CALLS = 36;

    private final Checks checks;
    private final Random random;
    private final GrainSilo silo = new GrainSilo();
    private final PlainSilo plain;
    private final int mostLayers;
    private final StringBuilder told = new StringBuilder();

    private RandomRunsTest(Checks checks, long seed, int mostLayers) {
        this.checks = checks;
        this.random = new Random(seed);
        this.mostLayers = mostLayers;
        this.plain = new PlainSilo(mostLayers <= 3);
    }

    public static void main(String[] args) {
        Checks checks = new Checks("RandomRunsTest");
        for (int run = 0; run < 300 && !checks.anyWrong(); run++) {
            new RandomRunsTest(checks, 1000 + run, 12).run(MOST_STEPS);
        }
        for (int run = 0; run < 40 && !checks.anyWrong(); run++) {
            new RandomRunsTest(checks, 9000 + run, 1 + run % 3).run(60);
        }
        checks.finish();
    }

    /** Each step makes two calls, so that a run stays within the 512 calls of one object. */
    private void run(int steps) {
        for (int step = 0; step < steps && !checks.anyWrong(); step++) {
            if (random.nextInt(100) < 45) {
                call(random.nextInt(CALLS));
            } else {
                call(drawOneThatBuilds());
            }
            compare("digest()", silo::digest, plain::digest);
        }
        if (checks.anyWrong()) {
            System.out.println("the run was: " + told);
        }
    }

    private int drawOneThatBuilds() {
        int[] builders = {0, 0, 0, 5, 5, 5, 5, 4};
        return builders[random.nextInt(builders.length)];
    }

    /** Mostly 0 to bound - 1, now and then just outside. */
    private int number(int bound) {
        int drawn = random.nextInt(40);
        if (drawn == 0) {
            return -1;
        }
        if (drawn == 1) {
            return bound;
        }
        if (drawn == 2) {
            return random.nextBoolean() ? Integer.MAX_VALUE : Integer.MIN_VALUE;
        }
        return random.nextInt(Math.max(bound, 1));
    }

    private int days() {
        return random.nextInt(4) == 0 ? random.nextInt(53) - 1 : 1 + random.nextInt(2);
    }

    private void compare(String call, Supplier<Object> program, Supplier<Object> due) {
        told.append(call).append(' ');
        checks.due(call, Checks.answerOf(due), Checks.answerOf(program));
    }

    private void call(int which) {
        if (which < 9) {
            callThatChanges(which);
        } else if (which < 21) {
            callForWhatThereIs(which);
        } else {
            callForWhatCouldBe(which);
        }
    }

    private void callThatChanges(int which) {
        int a = number(plain.layers());
        int b = random.nextInt(8) == 0 ? number(plain.layers()) : a + random.nextInt(4);
        int kind = number(5);
        int dampness = random.nextInt(3) == 0 ? 40 * random.nextInt(2) : number(41);
        int limit = number(41);
        int days = days();
        int sample = number(plain.samples());
        switch (which) {
            case 0 -> {
                if (mostLayers == 12 || plain.layers() < mostLayers) {
                    compare("fill(" + kind + ", " + dampness + ")",
                            () -> silo.fill(kind, dampness), () -> plain.fill(kind, dampness));
                }
            }
            case 1 -> compare("letOut()", silo::letOut, plain::letOut);
            case 2 -> compare("turnOver()", silo::turnOver, plain::turnOver);
            case 3 -> compare("setLimit(" + limit + ")", () -> silo.setLimit(limit), () -> plain.setLimit(limit));
            case 4 -> compare("pass(" + days + ")", () -> silo.pass(days), () -> plain.pass(days));
            case 5 -> compare("draw(" + a + ", " + b + ")", () -> silo.draw(a, b), () -> plain.draw(a, b));
            case 6 -> compare("throwAway(" + sample + ")", () -> silo.throwAway(sample), () -> plain.throwAway(sample));
            case 7 -> compare("meanDampness()", silo::meanDampness, plain::meanDampness);
            default -> compare("daysUntilEven()", silo::daysUntilEven, plain::daysUntilEven);
        }
    }

    private void callForWhatThereIs(int which) {
        int layer = number(plain.layers());
        int kind = number(5);
        int sample = number(plain.samples());
        switch (which) {
            case 9 -> compare("samples()", silo::samples, plain::samples);
            case 10 -> compare("lowestOf(" + sample + ")", () -> silo.lowestOf(sample), () -> plain.lowestOf(sample));
            case 11 -> compare("highestOf(" + sample + ")",
                    () -> silo.highestOf(sample), () -> plain.highestOf(sample));
            case 12 -> compare("sumOf(" + sample + ")", () -> silo.sumOf(sample), () -> plain.sumOf(sample));
            case 13 -> compare("doubtOf(" + sample + ")", () -> silo.doubtOf(sample), () -> plain.doubtOf(sample));
            case 14 -> compare("layers()", silo::layers, plain::layers);
            case 15 -> compare("day()", silo::day, plain::day);
            case 16 -> compare("limit()", silo::limit, plain::limit);
            case 17 -> compare("sold()",
                    () -> silo.sold() * 1000 + silo.spoilt(), () -> plain.sold() * 1000 + plain.spoilt());
            case 18 -> compare("kindOf(" + layer + ")", () -> silo.kindOf(layer), () -> plain.kindOf(layer));
            case 19 -> compare("dampnessOf(" + layer + ")",
                    () -> silo.dampnessOf(layer), () -> plain.dampnessOf(layer));
            default -> {
                compare("dampLayers()", silo::dampLayers, plain::dampLayers);
                compare("layersAheadOf(" + kind + ")", () -> silo.layersAheadOf(kind), () -> plain.layersAheadOf(kind));
            }
        }
    }

    private void callForWhatCouldBe(int which) {
        int a = number(plain.layers());
        int b = random.nextInt(8) == 0 ? number(plain.layers()) : a + random.nextInt(4);
        int days = days();
        switch (which) {
            case 21 -> compare("leastOf(" + a + ")", () -> silo.leastOf(a), () -> plain.leastOf(a));
            case 22 -> compare("greatestOf(" + a + ")", () -> silo.greatestOf(a), () -> plain.greatestOf(a));
            case 23 -> compare("isKnown(" + a + ")", () -> silo.isKnown(a), () -> plain.isKnown(a));
            case 24 -> compare("surelyDry()", silo::surelyDry, plain::surelyDry);
            case 25 -> compare("surelyDamp()", silo::surelyDamp, plain::surelyDamp);
            case 26 -> compare("worstLayer()", silo::worstLayer, plain::worstLayer);
            case 27 -> compare("doubt()", silo::doubt, plain::doubt);
            case 28, 29 -> compare("leastSum(" + a + ", " + b + ")",
                    () -> silo.leastSum(a, b), () -> plain.leastSum(a, b));
            case 30 -> compare("greatestSum(" + a + ", " + b + ")",
                    () -> silo.greatestSum(a, b), () -> plain.greatestSum(a, b));
            case 31, 32 -> compare("doubtBehind(" + a + ", " + b + ")",
                    () -> silo.doubtBehind(a, b), () -> plain.doubtBehind(a, b));
            case 33, 34 -> compare("bestToLookAt()", silo::bestToLookAt, plain::bestToLookAt);
            default -> compare("dampnessIn(" + a + ", " + days + ")",
                    () -> silo.dampnessIn(a, days), () -> plain.dampnessIn(a, days));
        }
    }
}
