import java.util.ArrayList;
import java.util.Arrays;
import java.util.List;
import java.util.TreeSet;

/**
 * Promises 2 to 9: in many states, every call with every argument at, just inside and just
 * outside of its bounds throws what the document says and where it says so; where several
 * exceptions fit, the one named first; and a call that throws has changed nothing.
 */
public final class RefusedCallsTest {
    private static final String NO_INDEX = "throws.IndexOutOfBoundsException";
    private static final String NO_ARGUMENT = "throws.IllegalArgumentException";
    private static final String NO_STATE = "throws.IllegalStateException";
    private static final String ANSWERS = "answers";

    private static final int LOWEST = Integer.MIN_VALUE;
    private static final int HIGHEST = Integer.MAX_VALUE;

    private static final List<String> FULL = List.of("begin 7",
            "edge 0 1 50", "edge 1 2 99", "edge 2 3 1", "edge 3 4 2", "edge 4 5 98", "edge 5 6 30",
            "edge 6 0 31", "edge 0 3 32", "edge 1 4 33", "edge 2 5 34", "edge 3 6 35", "edge 4 0 36");

    private final Expect expect = new Expect();
    private List<String> before;
    private Twins twins;
    private int nodes;
    private TreeSet<Integer> weights;
    private boolean awake;
    private int[] waiting;

    public static void main(String[] args) {
        new RefusedCallsTest().playAll();
    }

    private void playAll() {
        play(List.of());
        play(List.of("begin 1"));
        play(List.of("begin 1", "wake 0"));
        play(List.of("begin 2", "edge 0 1 99"));
        play(List.of("begin 2", "edge 0 1 1", "wake 0"));
        play(List.of("begin 3", "edge 1 2 50", "wake 2", "handle 1", "handle 2"));
        play(List.of("begin 7"));
        play(List.of("begin 7", "wake 6"));
        play(FULL.subList(0, FULL.size() - 1));
        play(FULL);
        play(and(FULL, "wake 6"));
        play(and(FULL, "wake 0", "wake 3", "wake 6", "run 2 17"));
        play(and(FULL, "wake 0", "run 0 999"));
        play(and(and(FULL, "wake 0", "run 0 30"), "begin 2", "edge 1 0 2"));
        expect.finish();
    }

    private static List<String> and(List<String> calls, String... more) {
        List<String> all = new ArrayList<>(calls);
        all.addAll(Arrays.asList(more));
        return all;
    }

    private void play(List<String> state) {
        before = state;
        twins = new Twins(expect, state);
        learnFacts();
        int[] nodeValues = around(0, nodes, 7);
        for (int n : around(1, 8, 7)) {
            check("begin " + n, dueBegin(n));
        }
        for (int node : nodeValues) {
            check("wake " + node, dueNode(node));
            check("handle " + node, dueNode(node));
            for (int most : around(0, 1000, 500)) {
                check("run " + node + " " + most, dueRun(node, most));
            }
            for (int what : around(0, 10, 5)) {
                check("about " + node + " " + what, dueAbout(node, what));
            }
            for (int edge : around(0, weights.size(), 12)) {
                check("mark " + node + " " + edge, dueMark(node, edge));
            }
            for (int i : around(0, isNode(node) ? waiting[node] : 0, 3)) {
                for (int what : around(0, 5, 3)) {
                    check("message " + node + " " + i + " " + what, dueMessage(node, i, what));
                }
            }
            for (int two : nodeValues) {
                for (int weight : weightValues()) {
                    check("edge " + node + " " + two + " " + weight, dueEdge(node, two, weight));
                }
            }
        }
    }

    /** Some numbers at, within and outside of low .. end - 1. */
    private static int[] around(int low, int end, int other) {
        TreeSet<Integer> all = new TreeSet<>(List.of(LOWEST, low - 1, low, end - 1, end, other, 256, HIGHEST));
        return all.stream().mapToInt(Integer::intValue).toArray();
    }

    private int[] weightValues() {
        TreeSet<Integer> all = new TreeSet<>(List.of(LOWEST, -1, 0, 1, 2, 97, 98, 99, 100, HIGHEST));
        if (!weights.isEmpty()) {
            all.add(weights.first());
            all.add(weights.last());
        }
        return all.stream().mapToInt(Integer::intValue).toArray();
    }

    private void check(String call, String due) {
        List<String> with = and(before, call);
        MergingFragments x = Calls.replay(before);
        String where = before + ": " + call;
        expect.equal(where, due, () -> {
            Object got = Expect.outcome(() -> Calls.make(x, call));
            return String.valueOf(got).startsWith("throws.") ? got : ANSWERS;
        });
        if (!due.equals(ANSWERS)) {
            twins.expectSame(where, with);
        }
    }

    private void learnFacts() {
        nodes = 0;
        weights = new TreeSet<>();
        awake = false;
        for (String call : before) {
            String[] words = call.split(" ");
            switch (words[0]) {
                case "begin":
                    nodes = Integer.parseInt(words[1]);
                    weights.clear();
                    awake = false;
                    break;
                case "edge":
                    weights.add(Integer.parseInt(words[3]));
                    break;
                case "wake":
                    awake = true;
                    break;
                default:
                    break;
            }
        }
        MergingFragments x = Calls.replay(before);
        waiting = new int[nodes];
        for (int i = 0; i < nodes; i++) {
            waiting[i] = x.about(i, 8);
        }
    }

    private boolean isNode(int node) {
        return node >= 0 && node < nodes;
    }

    private static String dueBegin(int n) {
        return n < 1 || n > 7 ? NO_ARGUMENT : ANSWERS;
    }

    private String dueNode(int node) {
        return isNode(node) ? ANSWERS : NO_INDEX;
    }

    private String dueRun(int first, int most) {
        if (!isNode(first)) {
            return NO_INDEX;
        }
        return most < 0 || most > 999 ? NO_ARGUMENT : ANSWERS;
    }

    private String dueAbout(int node, int what) {
        if (!isNode(node)) {
            return NO_INDEX;
        }
        return what < 0 || what > 9 ? NO_ARGUMENT : ANSWERS;
    }

    private String dueMark(int node, int edge) {
        return isNode(node) && edge >= 0 && edge < weights.size() ? ANSWERS : NO_INDEX;
    }

    private String dueMessage(int node, int i, int what) {
        if (!isNode(node) || i < 0 || i >= waiting[node]) {
            return NO_INDEX;
        }
        return what < 0 || what > 4 ? NO_ARGUMENT : ANSWERS;
    }

    private String dueEdge(int one, int two, int weight) {
        if (!isNode(one) || !isNode(two)) {
            return NO_INDEX;
        }
        if (one == two || weight < 1 || weight > 99 || weights.contains(weight)) {
            return NO_ARGUMENT;
        }
        return awake || weights.size() == 12 ? NO_STATE : ANSWERS;
    }
}
