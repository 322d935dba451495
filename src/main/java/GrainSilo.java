/** A silo of mixed grain: layers one upon the other, and samples that tell how damp they are. */
public final class GrainSilo {
    private static final int MOST_LAYERS = 12;
    private static final int MOST_SAMPLES = 16;
    private static final int LAST_KIND = 4;
    private static final int MOST_DAMPNESS = 40;
    private static final int FIRST_LIMIT = 14;
    private static final int MOST_DAYS = 50;
    private static final int LAST_DAY_LOOKED_AT = 200;
    private static final int STEEP = 2;
    private static final long DIGEST_START = 1907L;
    private static final long DIGEST_FACTOR = 31L;

    private final int[] kinds;
    private final int[] dampness;
    private int layers;

    private final int[] lowest;
    private final int[] highest;
    private final int[] sums;
    private final int[] doubts;
    private int samples;

    private int day;
    private int limit;
    private int sold;
    private int spoilt;

    // Working rows, made once, so that no call makes an array.
    private final int[] turns;
    private final int[] ahead;

    // Seam i lies below layer i, the last seam upon all layers. most[i][j] is the most
    // by which the dampness below seam j, added, could be more than that below seam i.
    private final int[][] most;

    public GrainSilo() {
        kinds = new int[MOST_LAYERS];
        dampness = new int[MOST_LAYERS];
        lowest = new int[MOST_SAMPLES];
        highest = new int[MOST_SAMPLES];
        sums = new int[MOST_SAMPLES];
        doubts = new int[MOST_SAMPLES];
        turns = new int[MOST_LAYERS];
        ahead = new int[MOST_LAYERS];
        most = new int[MOST_LAYERS + 1][MOST_LAYERS + 1];
        limit = FIRST_LIMIT;
    }

    // ---- layers

    public int fill(int kind, int dampness) throws IllegalArgumentException, IllegalStateException {
        if (!isKind(kind) || !isDampness(dampness)) {
            throw new IllegalArgumentException("no such kind or dampness");
        }
        if (layers >= MOST_LAYERS) {
            throw new IllegalStateException("the silo is full");
        }
        return putOnTop(kind, dampness);
    }

    public int letOut() throws IllegalStateException {
        if (layers == 0) {
            throw new IllegalStateException("there are no layers");
        }
        int gone = dampness[0];
        countOut(gone);
        lowerLayers();
        cutLowestOffSamples(gone);
        lowerSamples();
        return gone;
    }

    public int turnOver() throws IllegalStateException {
        if (layers < 2) {
            throw new IllegalStateException("there are fewer than two layers");
        }
        int kind = kinds[0];
        int damp = dampness[0];
        lowerLayers();
        putOnTop(kind, damp);
        int before = samples;
        dropSamplesOfLowest();
        lowerSamples();
        return before - samples;
    }

    public int setLimit(int limit) throws IllegalArgumentException {
        if (!isDampness(limit)) {
            throw new IllegalArgumentException("no such limit");
        }
        int before = this.limit;
        this.limit = limit;
        return before;
    }

    public int pass(int days) throws IllegalArgumentException {
        checkDays(days);
        int changes = letDaysGoBy(dampness, days);
        addDoubt(days);
        day += days;
        return changes;
    }

    // ---- samples

    public int draw(int from, int to) throws IndexOutOfBoundsException, IllegalStateException {
        checkLayers(from, to);
        if (samples >= MOST_SAMPLES) {
            throw new IllegalStateException("there are as many samples as can be");
        }
        int sum = sumNow(from, to);
        lowest[samples] = from;
        highest[samples] = to;
        sums[samples] = sum;
        doubts[samples] = 0;
        samples++;
        return sum;
    }

    public int throwAway(int sample) throws IndexOutOfBoundsException {
        checkSample(sample);
        for (int s = sample + 1; s < samples; s++) {
            moveSample(s, s - 1);
        }
        samples--;
        return samples;
    }

    public int samples() {
        return samples;
    }

    public int lowestOf(int sample) throws IndexOutOfBoundsException {
        checkSample(sample);
        return lowest[sample];
    }

    public int highestOf(int sample) throws IndexOutOfBoundsException {
        checkSample(sample);
        return highest[sample];
    }

    public int sumOf(int sample) throws IndexOutOfBoundsException {
        checkSample(sample);
        return sums[sample];
    }

    public int doubtOf(int sample) throws IndexOutOfBoundsException {
        checkSample(sample);
        return doubts[sample];
    }

    // ---- what there is

    public int layers() {
        return layers;
    }

    public int day() {
        return day;
    }

    public int limit() {
        return limit;
    }

    public int sold() {
        return sold;
    }

    public int spoilt() {
        return spoilt;
    }

    public int kindOf(int layer) throws IndexOutOfBoundsException {
        checkLayer(layer);
        return kinds[layer];
    }

    public int dampnessOf(int layer) throws IndexOutOfBoundsException {
        checkLayer(layer);
        return dampness[layer];
    }

    public int dampLayers() {
        int count = 0;
        for (int layer = 0; layer < layers; layer++) {
            if (isDamp(dampness[layer])) {
                count++;
            }
        }
        return count;
    }

    public int layersAheadOf(int kind) throws IndexOutOfBoundsException {
        if (!isKind(kind)) {
            throw new IndexOutOfBoundsException("no such kind");
        }
        for (int layer = 0; layer < layers; layer++) {
            if (kinds[layer] == kind) {
                return layer;
            }
        }
        return -1;
    }

    // ---- what could be

    public int leastOf(int layer) throws IndexOutOfBoundsException {
        checkLayer(layer);
        weighSamples();
        return least(layer, layer);
    }

    public int greatestOf(int layer) throws IndexOutOfBoundsException {
        checkLayer(layer);
        weighSamples();
        return greatest(layer, layer);
    }

    public boolean isKnown(int layer) throws IndexOutOfBoundsException {
        checkLayer(layer);
        weighSamples();
        return least(layer, layer) == greatest(layer, layer);
    }

    public int surelyDry() {
        weighSamples();
        return countSurelyDry();
    }

    public int surelyDamp() {
        weighSamples();
        return countSurelyDamp();
    }

    public int worstLayer() throws IllegalStateException {
        checkNotEmpty();
        weighSamples();
        int worst = 0;
        for (int layer = 1; layer < layers; layer++) {
            if (greatest(layer, layer) > greatest(worst, worst)) {
                worst = layer;
            }
        }
        return worst;
    }

    public int doubt() {
        weighSamples();
        return doubtNow();
    }

    public int leastSum(int from, int to) throws IndexOutOfBoundsException {
        checkLayers(from, to);
        weighSamples();
        return least(from, to);
    }

    public int greatestSum(int from, int to) throws IndexOutOfBoundsException {
        checkLayers(from, to);
        weighSamples();
        return greatest(from, to);
    }

    // ---- what would be

    public int doubtBehind(int from, int to) throws IndexOutOfBoundsException {
        checkLayers(from, to);
        weighSamples();
        return doubtIfDrawn(from, to);
    }

    public int bestToLookAt() throws IllegalStateException {
        checkNotEmpty();
        weighSamples();
        int best = 0;
        int leastDoubt = doubtIfDrawn(0, 0);
        for (int layer = 1; layer < layers; layer++) {
            int doubtLeft = doubtIfDrawn(layer, layer);
            if (doubtLeft < leastDoubt) {
                leastDoubt = doubtLeft;
                best = layer;
            }
        }
        return best;
    }

    public int dampnessIn(int layer, int days) throws IndexOutOfBoundsException, IllegalArgumentException {
        checkLayer(layer);
        checkDays(days);
        copyDampnessAhead();
        letDaysGoBy(ahead, days);
        return ahead[layer];
    }

    public int daysUntilEven() {
        copyDampnessAhead();
        for (int days = 0; days <= LAST_DAY_LOOKED_AT; days++) {
            if (letDayGoBy(ahead) == 0) {
                return days;
            }
        }
        return -1;
    }

    public double meanDampness() {
        if (layers == 0) {
            return 0.0;
        }
        return (double) sumNow(0, layers - 1) / (double) layers;
    }

    public long digest() {
        weighSamples();
        long d = DIGEST_START;
        d = digestOf(d, layers);
        d = digestOf(d, samples);
        d = digestOf(d, day);
        d = digestOf(d, limit);
        d = digestOf(d, sold);
        d = digestOf(d, spoilt);
        d = digestOf(d, doubtNow());
        d = digestOf(d, countSurelyDry());
        d = digestOf(d, countSurelyDamp());
        d = digestOfLayers(d);
        return digestOfSamples(d);
    }

    // ---- what is allowed

    private static boolean isKind(int kind) {
        return kind >= 0 && kind <= LAST_KIND;
    }

    private static boolean isDampness(int damp) {
        return damp >= 0 && damp <= MOST_DAMPNESS;
    }

    private static void checkDays(int days) {
        if (days < 1 || days > MOST_DAYS) {
            throw new IllegalArgumentException("days are 1 to 50");
        }
    }

    private void checkLayer(int layer) {
        if (layer < 0 || layer >= layers) {
            throw new IndexOutOfBoundsException("no such layer");
        }
    }

    private void checkLayers(int from, int to) {
        if (from < 0 || to >= layers || from > to) {
            throw new IndexOutOfBoundsException("no such layers");
        }
    }

    private void checkSample(int sample) {
        if (sample < 0 || sample >= samples) {
            throw new IndexOutOfBoundsException("no such sample");
        }
    }

    private void checkNotEmpty() {
        if (layers == 0) {
            throw new IllegalStateException("there are no layers");
        }
    }

    // ---- moving layers

    private boolean isDamp(int damp) {
        return damp > limit;
    }

    /** Puts a layer upon all others and answers its number; the caller knows that there is room. */
    private int putOnTop(int kind, int damp) {
        int layer = layers;
        kinds[layer] = kind;
        dampness[layer] = damp;
        layers++;
        return layer;
    }

    private void countOut(int damp) {
        if (isDamp(damp)) {
            spoilt++;
        } else {
            sold++;
        }
    }

    /** Takes the lowest layer away, so that all others have a number 1 less. */
    private void lowerLayers() {
        for (int layer = 1; layer < layers; layer++) {
            kinds[layer - 1] = kinds[layer];
            dampness[layer - 1] = dampness[layer];
        }
        layers--;
    }

    private int sumNow(int from, int to) {
        int sum = 0;
        for (int layer = from; layer <= to; layer++) {
            sum += dampness[layer];
        }
        return sum;
    }

    // ---- moving samples

    private void moveSample(int from, int to) {
        lowest[to] = lowest[from];
        highest[to] = highest[from];
        sums[to] = sums[from];
        doubts[to] = doubts[from];
    }

    /**
     * Takes the lowest layer, which was so damp, off each sample that has others too, and drops the samples of it
     * alone. A sample cut starts at layer 1 then, by the numbers from before the layer went.
     */
    private void cutLowestOffSamples(int damp) {
        for (int s = 0; s < samples; s++) {
            if (lowest[s] == 0 && highest[s] > 0) {
                lowest[s] = 1;
                sums[s] -= damp;
            }
        }
        dropSamplesOfLowest();
    }

    private void dropSamplesOfLowest() {
        int kept = 0;
        for (int s = 0; s < samples; s++) {
            if (lowest[s] > 0) {
                moveSample(s, kept);
                kept++;
            }
        }
        samples = kept;
    }

    private void lowerSamples() {
        for (int s = 0; s < samples; s++) {
            lowest[s]--;
            highest[s]--;
        }
    }

    private void addDoubt(int days) {
        for (int s = 0; s < samples; s++) {
            doubts[s] += days * (highest[s] - lowest[s] + 1);
        }
    }

    // ---- days

    private void copyDampnessAhead() {
        for (int layer = 0; layer < layers; layer++) {
            ahead[layer] = dampness[layer];
        }
    }

    private int letDaysGoBy(int[] row, int days) {
        int changes = 0;
        for (int i = 0; i < days; i++) {
            changes += letDayGoBy(row);
        }
        return changes;
    }

    /** Answers how many layers get damper or drier; all turns are found first, as the day begins. */
    private int letDayGoBy(int[] row) {
        for (int layer = 0; layer < layers; layer++) {
            turns[layer] = turnOf(row, layer);
        }
        int changes = 0;
        for (int layer = 0; layer < layers; layer++) {
            if (turns[layer] != 0) {
                row[layer] += turns[layer];
                changes++;
            }
        }
        return changes;
    }

    private int turnOf(int[] row, int layer) {
        int pull = pullOf(row, layer, layer - 1) + pullOf(row, layer, layer + 1);
        if (pull > 0) {
            return 1;
        }
        return pull < 0 ? -1 : 0;
    }

    /** Answers 1 if the layer beside is damper enough to count, -1 if drier enough, otherwise 0. */
    private int pullOf(int[] row, int layer, int beside) {
        if (beside < 0 || beside >= layers) {
            return 0;
        }
        int more = row[beside] - row[layer];
        if (more >= STEEP) {
            return 1;
        }
        return more <= -STEEP ? -1 : 0;
    }

    // ---- what could be, by the samples

    /** Fills most[][] in; all private methods below that tell what could be read it. */
    private void weighSamples() {
        weighNothing();
        for (int s = 0; s < samples; s++) {
            int below = lowest[s];
            int above = highest[s] + 1;
            heed(below, above, sums[s] + doubts[s]);
            heed(above, below, doubts[s] - sums[s]);
        }
    }

    private void weighNothing() {
        for (int i = 0; i <= layers; i++) {
            for (int j = 0; j <= layers; j++) {
                most[i][j] = j > i ? (j - i) * MOST_DAMPNESS : 0;
            }
        }
    }

    /**
     * Narrows most[][] by one more bound, from one seam to another. It may be done in place: what is so could be, so
     * that no way round adds up to less than 0, and what is read here, from i to the bound and from it on to j, does
     * not change by it.
     */
    private void heed(int from, int to, int bound) {
        if (bound >= most[from][to]) {
            return;
        }
        for (int i = 0; i <= layers; i++) {
            for (int j = 0; j <= layers; j++) {
                most[i][j] = Math.min(most[i][j], most[i][from] + bound + most[to][j]);
            }
        }
    }

    private int least(int from, int to) {
        return -most[to + 1][from];
    }

    private int greatest(int from, int to) {
        return most[from][to + 1];
    }

    private int countSurelyDry() {
        int count = 0;
        for (int layer = 0; layer < layers; layer++) {
            if (!isDamp(greatest(layer, layer))) {
                count++;
            }
        }
        return count;
    }

    private int countSurelyDamp() {
        int count = 0;
        for (int layer = 0; layer < layers; layer++) {
            if (isDamp(least(layer, layer))) {
                count++;
            }
        }
        return count;
    }

    private int doubtNow() {
        int doubt = 0;
        for (int layer = 0; layer < layers; layer++) {
            doubt += greatest(layer, layer) - least(layer, layer);
        }
        return doubt;
    }

    private int doubtIfDrawn(int from, int to) {
        int sum = sumNow(from, to);
        int doubt = 0;
        for (int layer = 0; layer < layers; layer++) {
            doubt += mostIfTold(layer, layer + 1, from, to + 1, sum) + mostIfTold(layer + 1, layer, from, to + 1, sum);
        }
        return doubt;
    }

    /**
     * Answers what most[i][j] would be if a sample told the sum between two seams. A way by both its bounds is no
     * shorter than one by neither, so that one of them at a time is enough, and most[][] need not be changed.
     */
    private int mostIfTold(int i, int j, int below, int above, int sum) {
        int upwards = most[i][below] + sum + most[above][j];
        int downwards = most[i][above] - sum + most[below][j];
        return Math.min(most[i][j], Math.min(upwards, downwards));
    }

    // ---- digest

    private static long digestOf(long d, long x) {
        return d * DIGEST_FACTOR + x;
    }

    private long digestOfLayers(long start) {
        long d = start;
        for (int layer = 0; layer < layers; layer++) {
            d = digestOf(d, kinds[layer]);
            d = digestOf(d, dampness[layer]);
            d = digestOf(d, least(layer, layer));
            d = digestOf(d, greatest(layer, layer));
        }
        return d;
    }

    private long digestOfSamples(long start) {
        long d = start;
        for (int s = 0; s < samples; s++) {
            d = digestOf(d, lowest[s]);
            d = digestOf(d, highest[s]);
            d = digestOf(d, sums[s]);
            d = digestOf(d, doubts[s]);
        }
        return d;
    }
}
