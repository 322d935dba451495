import java.util.ArrayList;
import java.util.Arrays;
import java.util.List;

/**
 * The document once more, told as plainly as can be and otherwise than the program: samples hold the very layers that
 * they were drawn of, and what could be is tried out (up to three layers), or found by walking every bound again and
 * again.
 */
final class PlainSilo {
    private static final class Layer {
        final int kind;
        int dampness;

        Layer(int kind, int dampness) {
            this.kind = kind;
            this.dampness = dampness;
        }
    }

    private static final class Sample {
        final List<Layer> of;
        int sum;
        int doubt = 0;

        Sample(List<Layer> of) {
            this.of = new ArrayList<>(of);
            this.sum = of.stream().mapToInt(layer -> layer.dampness).sum();
        }
    }

    private final List<Layer> layers = new ArrayList<>();
    private final List<Sample> samples = new ArrayList<>();
    private final boolean triesAllOut;
    private int day = 0;
    private int limit = 14;
    private int sold = 0;
    private int spoilt = 0;
    private int[][][] ranges = null;

    PlainSilo(boolean triesAllOut) {
        this.triesAllOut = triesAllOut;
    }

    private static void refuseIf(boolean wrong, RuntimeException refusal) {
        if (wrong) {
            throw refusal;
        }
    }

    private static RuntimeException argument() {
        return new IllegalArgumentException();
    }

    private static RuntimeException state() {
        return new IllegalStateException();
    }

    private void needLayers(int from, int to) {
        refuseIf(from < 0 || from >= layers.size() || to < 0 || to >= layers.size() || from > to,
                new IndexOutOfBoundsException());
    }

    private Sample sample(int sample) {
        refuseIf(sample < 0 || sample >= samples.size(), new IndexOutOfBoundsException());
        return samples.get(sample);
    }

    int fill(int kind, int dampness) {
        refuseIf(kind < 0 || kind > 4 || dampness < 0 || dampness > 40, argument());
        refuseIf(layers.size() == 12, state());
        ranges = null;
        layers.add(new Layer(kind, dampness));
        return layers.size() - 1;
    }

    int letOut() {
        refuseIf(layers.isEmpty(), state());
        ranges = null;
        Layer out = layers.remove(0);
        if (out.dampness > limit) {
            spoilt++;
        } else {
            sold++;
        }
        for (Sample sample : samples) {
            if (sample.of.remove(out)) {
                sample.sum -= out.dampness;
            }
        }
        samples.removeIf(sample -> sample.of.isEmpty());
        return out.dampness;
    }

    int turnOver() {
        refuseIf(layers.size() < 2, state());
        ranges = null;
        Layer turned = layers.remove(0);
        layers.add(turned);
        int before = samples.size();
        samples.removeIf(sample -> sample.of.contains(turned));
        return before - samples.size();
    }

    int setLimit(int limit) {
        refuseIf(limit < 0 || limit > 40, argument());
        int before = this.limit;
        this.limit = limit;
        return before;
    }

    int pass(int days) {
        refuseIf(days < 1 || days > 50, argument());
        ranges = null;
        int changes = 0;
        for (int i = 0; i < days; i++) {
            int[] now = dampnesses();
            int[] then = nextDay(now);
            for (int l = 0; l < now.length; l++) {
                changes += now[l] == then[l] ? 0 : 1;
                layers.get(l).dampness = then[l];
            }
            samples.forEach(sample -> sample.doubt += sample.of.size());
            day++;
        }
        return changes;
    }

    private int[] dampnesses() {
        return layers.stream().mapToInt(layer -> layer.dampness).toArray();
    }

    private static int[] nextDay(int[] now) {
        int[] then = now.clone();
        for (int l = 0; l < now.length; l++) {
            int damper = 0;
            int drier = 0;
            for (int beside : new int[] {l - 1, l + 1}) {
                if (beside >= 0 && beside < now.length) {
                    damper += now[beside] >= now[l] + 2 ? 1 : 0;
                    drier += now[beside] <= now[l] - 2 ? 1 : 0;
                }
            }
            if (damper > drier) {
                then[l]++;
            } else if (drier > damper) {
                then[l]--;
            }
        }
        return then;
    }

    int draw(int from, int to) {
        needLayers(from, to);
        refuseIf(samples.size() == 16, state());
        Sample drawn = new Sample(layers.subList(from, to + 1));
        ranges = null;
        samples.add(drawn);
        return drawn.sum;
    }

    int throwAway(int sample) {
        ranges = null;
        samples.remove(sample(sample));
        return samples.size();
    }

    int samples() {
        return samples.size();
    }

    int lowestOf(int sample) {
        return layers.indexOf(sample(sample).of.get(0));
    }

    int highestOf(int sample) {
        List<Layer> of = sample(sample).of;
        return layers.indexOf(of.get(of.size() - 1));
    }

    int sumOf(int sample) {
        return sample(sample).sum;
    }

    int doubtOf(int sample) {
        return sample(sample).doubt;
    }

    int layers() {
        return layers.size();
    }

    int day() {
        return day;
    }

    int limit() {
        return limit;
    }

    int sold() {
        return sold;
    }

    int spoilt() {
        return spoilt;
    }

    int kindOf(int layer) {
        needLayers(layer, layer);
        return layers.get(layer).kind;
    }

    int dampnessOf(int layer) {
        needLayers(layer, layer);
        return layers.get(layer).dampness;
    }

    int dampLayers() {
        return (int) layers.stream().filter(layer -> layer.dampness > limit).count();
    }

    int layersAheadOf(int kind) {
        refuseIf(kind < 0 || kind > 4, new IndexOutOfBoundsException());
        return layers.stream().map(layer -> layer.kind).toList().indexOf(kind);
    }

    int leastOf(int layer) {
        needLayers(layer, layer);
        return range(layer, layer)[0];
    }

    int greatestOf(int layer) {
        needLayers(layer, layer);
        return range(layer, layer)[1];
    }

    boolean isKnown(int layer) {
        needLayers(layer, layer);
        return range(layer, layer)[0] == range(layer, layer)[1];
    }

    int surelyDry() {
        int count = 0;
        for (int l = 0; l < layers.size(); l++) {
            count += range(l, l)[1] <= limit ? 1 : 0;
        }
        return count;
    }

    int surelyDamp() {
        int count = 0;
        for (int l = 0; l < layers.size(); l++) {
            count += range(l, l)[0] > limit ? 1 : 0;
        }
        return count;
    }

    int worstLayer() {
        refuseIf(layers.isEmpty(), state());
        int[] greatest = new int[layers.size()];
        Arrays.setAll(greatest, l -> range(l, l)[1]);
        return firstOf(greatest, Arrays.stream(greatest).max().getAsInt());
    }

    private static int firstOf(int[] row, int wanted) {
        int first = 0;
        while (row[first] != wanted) {
            first++;
        }
        return first;
    }

    int doubt() {
        int doubt = 0;
        for (int l = 0; l < layers.size(); l++) {
            int[] range = range(l, l);
            doubt += range[1] - range[0];
        }
        return doubt;
    }

    int leastSum(int from, int to) {
        needLayers(from, to);
        return range(from, to)[0];
    }

    int greatestSum(int from, int to) {
        needLayers(from, to);
        return range(from, to)[1];
    }

    int doubtBehind(int from, int to) {
        needLayers(from, to);
        ranges = null;
        samples.add(new Sample(layers.subList(from, to + 1)));
        int doubt = doubt();
        ranges = null;
        samples.remove(samples.size() - 1);
        return doubt;
    }

    int bestToLookAt() {
        refuseIf(layers.isEmpty(), state());
        int[] left = new int[layers.size()];
        Arrays.setAll(left, l -> doubtBehind(l, l));
        return firstOf(left, Arrays.stream(left).min().getAsInt());
    }

    int dampnessIn(int layer, int days) {
        needLayers(layer, layer);
        refuseIf(days < 1 || days > 50, argument());
        int[] row = dampnesses();
        for (int i = 0; i < days; i++) {
            row = nextDay(row);
        }
        return row[layer];
    }

    int daysUntilEven() {
        int[] row = dampnesses();
        for (int days = 0; days <= 200; days++) {
            int[] next = nextDay(row);
            if (Arrays.equals(row, next)) {
                return days;
            }
            row = next;
        }
        return -1;
    }

    double meanDampness() {
        return layers.stream().mapToInt(layer -> layer.dampness).average().orElse(0);
    }

    long digest() {
        List<Integer> numbers = new ArrayList<>(List.of(layers(), samples(), day(), limit(), sold(), spoilt(), doubt(),
                surelyDry(), surelyDamp()));
        for (int l = 0; l < layers.size(); l++) {
            numbers.addAll(List.of(kindOf(l), dampnessOf(l), leastOf(l), greatestOf(l)));
        }
        for (int s = 0; s < samples.size(); s++) {
            numbers.addAll(List.of(lowestOf(s), highestOf(s), sumOf(s), doubtOf(s)));
        }
        long d = 1907;
        for (int x : numbers) {
            d = d * 31 + x;
        }
        return d;
    }

    /** The least and the greatest sum of some layers in what could be; every change forgets what was found. */
    private int[] range(int from, int to) {
        if (ranges == null) {
            ranges = triesAllOut ? rangesTriedOut() : rangesWalked();
        }
        return ranges[from][to];
    }

    /** Each sample as its lowest layer, its highest one, the least and the greatest sum that it leaves. */
    private int[][] bounds() {
        int[][] bounds = new int[samples.size()][];
        Arrays.setAll(bounds, s -> new int[] {lowestOf(s), highestOf(s), sumOf(s) - doubtOf(s), sumOf(s) + doubtOf(s)});
        return bounds;
    }

    private int[][][] rangesTriedOut() {
        int[][][] tried = new int[layers.size()][layers.size()][];
        for (int[][] row : tried) {
            Arrays.setAll(row, to -> new int[] {Integer.MAX_VALUE, Integer.MIN_VALUE});
        }
        tryOut(new int[layers.size()], 0, bounds(), tried);
        return tried;
    }

    private static void tryOut(int[] row, int filled, int[][] bounds, int[][][] tried) {
        if (!couldBe(row, filled, bounds)) {
            return;
        }
        if (filled == row.length) {
            take(row, tried);
            return;
        }
        for (int dampness = 0; dampness <= 40; dampness++) {
            row[filled] = dampness;
            tryOut(row, filled + 1, bounds, tried);
        }
    }

    /** Looks at the samples whose highest layer was filled in last. */
    private static boolean couldBe(int[] row, int filled, int[][] bounds) {
        for (int[] bound : bounds) {
            if (bound[1] == filled - 1) {
                int sum = sum(row, bound[0], bound[1]);
                if (sum < bound[2] || sum > bound[3]) {
                    return false;
                }
            }
        }
        return true;
    }

    private static void take(int[] row, int[][][] tried) {
        for (int from = 0; from < row.length; from++) {
            for (int to = from; to < row.length; to++) {
                int sum = sum(row, from, to);
                tried[from][to][0] = Math.min(tried[from][to][0], sum);
                tried[from][to][1] = Math.max(tried[from][to][1], sum);
            }
        }
    }

    private static int sum(int[] row, int from, int to) {
        int sum = 0;
        for (int l = from; l <= to; l++) {
            sum += row[l];
        }
        return sum;
    }

    private int[][][] rangesWalked() {
        int[][] farthest = new int[layers.size() + 1][];
        int[][] steps = steps();
        Arrays.setAll(farthest, start -> farthestFrom(start, steps));
        int[][][] walked = new int[layers.size()][layers.size()][];
        for (int from = 0; from < layers.size(); from++) {
            for (int to = from; to < layers.size(); to++) {
                walked[from][to] = new int[] {-farthest[to + 1][from], farthest[from][to + 1]};
            }
        }
        return walked;
    }

    /** By how much the sum below a seam could at most be more than that below another, as each bound says by itself. */
    private int[][] steps() {
        List<int[]> steps = new ArrayList<>();
        for (int l = 0; l < layers.size(); l++) {
            steps.add(new int[] {l, l + 1, 40});
            steps.add(new int[] {l + 1, l, 0});
        }
        for (int[] bound : bounds()) {
            steps.add(new int[] {bound[0], bound[1] + 1, bound[3]});
            steps.add(new int[] {bound[1] + 1, bound[0], -bound[2]});
        }
        return steps.toArray(new int[0][]);
    }

    private int[] farthestFrom(int start, int[][] steps) {
        int[] way = new int[layers.size() + 1];
        Arrays.fill(way, 1_000_000_000);
        way[start] = 0;
        for (int round = 0; round < way.length; round++) {
            for (int[] step : steps) {
                way[step[1]] = Math.min(way[step[1]], way[step[0]] + step[2]);
            }
        }
        return way;
    }
}
