import java.util.ArrayList;
import java.util.List;
import java.util.function.Supplier;

/** Every answer that a silo gives without being changed, as texts: some 390 calls, of 512, for a full one. */
final class Answers {
    private final GrainSilo silo;
    private final List<String> told = new ArrayList<>();

    private Answers(GrainSilo silo) {
        this.silo = silo;
    }

    static List<String> of(GrainSilo silo) {
        Answers answers = new Answers(silo);
        answers.askOfAll();
        answers.askOfKinds();
        int layers = silo.layers();
        for (int layer = 0; layer < layers; layer++) {
            answers.askOfLayer(layer);
            answers.askOfLayersFrom(layer, layers);
        }
        int samples = silo.samples();
        for (int sample = 0; sample < samples; sample++) {
            answers.askOfSample(sample);
        }
        return answers.told;
    }

    private void tell(String call, Supplier<Object> made) {
        told.add(call + ": " + Checks.answerOf(made));
    }

    private void askOfAll() {
        tell("samples()", silo::samples);
        tell("layers()", silo::layers);
        tell("day()", silo::day);
        tell("limit()", silo::limit);
        tell("sold()", silo::sold);
        tell("spoilt()", silo::spoilt);
        tell("dampLayers()", silo::dampLayers);
        tell("surelyDry()", silo::surelyDry);
        tell("surelyDamp()", silo::surelyDamp);
        tell("worstLayer()", silo::worstLayer);
        tell("doubt()", silo::doubt);
        tell("bestToLookAt()", silo::bestToLookAt);
        tell("daysUntilEven()", silo::daysUntilEven);
        tell("meanDampness()", silo::meanDampness);
        tell("digest()", silo::digest);
    }

    private void askOfKinds() {
        for (int kind = 0; kind <= 4; kind++) {
            int asked = kind;
            tell("layersAheadOf(" + kind + ")", () -> silo.layersAheadOf(asked));
        }
    }

    private void askOfLayer(int layer) {
        tell("kindOf(" + layer + ")", () -> silo.kindOf(layer));
        tell("dampnessOf(" + layer + ")", () -> silo.dampnessOf(layer));
        tell("leastOf(" + layer + ")", () -> silo.leastOf(layer));
        tell("greatestOf(" + layer + ")", () -> silo.greatestOf(layer));
        tell("isKnown(" + layer + ")", () -> silo.isKnown(layer));
        tell("dampnessIn(" + layer + ", 1)", () -> silo.dampnessIn(layer, 1));
    }

    private void askOfLayersFrom(int from, int layers) {
        for (int to = from; to < layers; to++) {
            int last = to;
            tell("leastSum(" + from + ", " + to + ")", () -> silo.leastSum(from, last));
            tell("greatestSum(" + from + ", " + to + ")", () -> silo.greatestSum(from, last));
            tell("doubtBehind(" + from + ", " + to + ")", () -> silo.doubtBehind(from, last));
        }
    }

    private void askOfSample(int sample) {
        tell("lowestOf(" + sample + ")", () -> silo.lowestOf(sample));
        tell("highestOf(" + sample + ")", () -> silo.highestOf(sample));
        tell("sumOf(" + sample + ")", () -> silo.sumOf(sample));
        tell("doubtOf(" + sample + ")", () -> silo.doubtOf(sample));
    }
}
