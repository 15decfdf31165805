/** "An object is used for at most 512 calls": the last of them is answered as well as the first. */
public final class CallsTest {
    private static final int[][] EDGES = {{0, 1, 50}, {1, 2, 99}, {2, 3, 1}, {3, 4, 2}, {4, 5, 98}, {5, 6, 30},
        {6, 0, 31}, {0, 3, 32}, {1, 4, 33}, {2, 5, 34}, {3, 6, 35}, {4, 0, 36}};

    private final Expect expect = new Expect();
    private int calls = 0;

    public static void main(String[] args) {
        new CallsTest().playAll();
    }

    private void playAll() {
        playFullNetworks();
        playRefusedCalls();
        playPutBacks();
        expect.finish();
    }

    private void equal(String call, Object due, Expect.Call made) {
        calls++;
        expect.equal("call " + calls + ", " + call, due, made);
    }

    /** One network after another, each as large as can be: 32 times 16 calls. */
    private void playFullNetworks() {
        MergingFragments x = new MergingFragments();
        calls = 0;
        while (calls < Calls.MOST) {
            equal("begin(7)", "void", () -> begin(x, 7));
            for (int j = 0; j < EDGES.length; j++) {
                int[] e = EDGES[j];
                equal("edge " + j, j, () -> x.edge(e[0], e[1], e[2]));
            }
            equal("wake(6)", true, () -> x.wake(6));
            equal("run(6, 999)", 94, () -> x.run(6, 999));
            equal("weight()", 129, x::weight);
        }
        expect.equal("calls", Calls.MOST, () -> calls);
    }

    /** Calls that throw are calls too, and leave what they find up to the last one. */
    private void playRefusedCalls() {
        MergingFragments x = new MergingFragments();
        calls = 0;
        equal("begin(2)", "void", () -> begin(x, 2));
        equal("edge(0, 1, 7)", 0, () -> x.edge(0, 1, 7));
        equal("wake(0)", true, () -> x.wake(0));
        while (calls < Calls.MOST - 1) {
            equal("begin(8)", "throws.IllegalArgumentException", () -> begin(x, 8));
            equal("handle(2)", "throws.IndexOutOfBoundsException", () -> x.handle(2));
            equal("run(1, 1000)", "throws.IllegalArgumentException", () -> x.run(1, 1000));
            equal("edge(0, 1, 8)", "throws.IllegalStateException", () -> x.edge(0, 1, 8));
        }
        equal("run(1, 999)", 6, () -> x.run(1, 999));
        expect.equal("calls", Calls.MOST, () -> calls);
    }

    /** A node that puts back again and again sends nothing and keeps its one message. */
    private void playPutBacks() {
        MergingFragments x = new MergingFragments();
        calls = 0;
        equal("begin(3)", "void", () -> begin(x, 3));
        equal("edge(0, 1, 1)", 0, () -> x.edge(0, 1, 1));
        equal("edge(1, 2, 2)", 1, () -> x.edge(1, 2, 2));
        equal("wake(2)", true, () -> x.wake(2));
        while (calls < Calls.MOST - 2) {
            equal("handle(1)", 0, () -> x.handle(1));
        }
        equal("sent()", 2, x::sent);
        equal("left()", 2, x::left);
        expect.equal("calls", Calls.MOST, () -> calls);
    }

    private static Object begin(MergingFragments x, int n) {
        x.begin(n);
        return "void";
    }
}
