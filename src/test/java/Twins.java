import java.util.ArrayList;
import java.util.List;

/**
 * "A call that throws changes nothing": an object with the call and one without it answer the
 * same from then on. Each question has new objects of its own, since an object is good for 512
 * calls only.
 */
final class Twins {
    private final Expect expect;
    private final String now;
    private final String weights;
    private final String end;

    Twins(Expect expect, List<String> before) {
        this.expect = expect;
        now = View.all(Calls.replay(before));
        weights = takenWeights(Calls.replay(before));
        end = end(Calls.replay(before));
    }

    void expectSame(String what, List<String> calls) {
        expect.equal(what + ": all that can be asked", now, () -> View.all(Calls.replay(calls)));
        expect.equal(what + ": the weights that edges have", weights, () -> takenWeights(Calls.replay(calls)));
        expect.equal(what + ": the end", end, () -> end(Calls.replay(calls)));
    }

    /** Which weights edges have shows only in what a further edge is told. */
    private static String takenWeights(MergingFragments x) {
        List<String> parts = new ArrayList<>();
        for (int weight = 1; weight <= 99; weight++) {
            int tried = weight;
            parts.add(String.valueOf(Expect.outcome(() -> x.edge(0, 1, tried))));
        }
        return String.join(" ", parts);
    }

    /** Which edge has which weight, and between which nodes it is, shows only in how it goes on. */
    private static String end(MergingFragments x) {
        int nodes = View.nodes(x);
        List<String> parts = new ArrayList<>();
        for (int node = 0; node < nodes; node++) {
            parts.add(String.valueOf(x.wake(node)));
        }
        if (nodes > 0) {
            parts.add(String.valueOf(x.run(0, 999)));
        }
        return String.join(" ", parts) + "\n" + View.all(x);
    }
}
