import java.util.Random;

/**
 * All promises: the program and the model of the document answer the same, whatever is called
 * in whatever order, for all the 512 calls that an object is good for.
 */
public final class ModelTest {
    private static final int OBJECTS = 4000;

    private final Expect expect = new Expect();
    private final Random random = new Random(20261115);
    private MergingFragments x;
    private Model model;
    private int nodes;
    private int calls;

    public static void main(String[] args) {
        new ModelTest().playAll();
    }

    private void playAll() {
        for (int i = 0; i < OBJECTS; i++) {
            x = new MergingFragments();
            model = new Model();
            nodes = 0;
            calls = 0;
            int handling = random.nextInt(3);
            while (calls < Calls.MOST) {
                playOne(handling);
            }
        }
        expect.finish();
    }

    private void playOne(int handling) {
        int kind = random.nextInt(100);
        if (kind < 1 || nodes == 0) {
            int n = random.nextInt(8) == 0 ? wild(9) : 1 + random.nextInt(7);
            compare("begin(" + n + ")", () -> { model.begin(n); return "void"; }, () -> { x.begin(n); return "void"; });
            nodes = n >= 1 && n <= 7 ? n : nodes;
            addEdges(nodes > 0 ? random.nextInt(15) : 0);
        } else if (kind < 3) {
            addEdge(wild(8), wild(8), wild(101));
        } else if (kind < 12) {
            int node = node();
            compare("wake(" + node + ")", () -> model.wake(node), () -> x.wake(node));
        } else if (kind < 15 && handling > 0) {
            int first = node();
            int most = random.nextInt(4) == 0 ? wild(1001) : random.nextInt(handling == 1 ? 6 : 30);
            compare("run(" + first + ", " + most + ")", () -> model.run(first, most), () -> x.run(first, most));
        } else if (kind < 70) {
            int node = node();
            compare("handle(" + node + ")", () -> model.handle(node), () -> x.handle(node));
        } else if (kind < 85) {
            int node = node();
            int what = random.nextInt(20) == 0 ? wild(12) : random.nextInt(10);
            compare("about(" + node + ", " + what + ")", () -> model.about(node, what), () -> x.about(node, what));
        } else if (kind < 90) {
            int node = node();
            int edge = random.nextInt(10) == 0 ? wild(14) : random.nextInt(13);
            compare("mark(" + node + ", " + edge + ")", () -> model.mark(node, edge), () -> x.mark(node, edge));
        } else if (kind < 97) {
            int node = node();
            int i = random.nextInt(10) == 0 ? wild(6) : random.nextInt(3);
            int what = random.nextInt(10) == 0 ? wild(6) : random.nextInt(5);
            compare("message(" + node + ", " + i + ", " + what + ")",
                    () -> model.message(node, i, what), () -> x.message(node, i, what));
        } else {
            compare("sent()", () -> model.sent(), () -> x.sent());
            compare("left()", () -> model.left(), () -> x.left());
            compare("weight()", () -> model.weight(), () -> x.weight());
        }
    }

    private void addEdges(int edges) {
        for (int i = 0; i < edges; i++) {
            addEdge(random.nextInt(nodes), random.nextInt(nodes), 1 + random.nextInt(99));
        }
    }

    private void addEdge(int one, int two, int weight) {
        compare("edge(" + one + ", " + two + ", " + weight + ")",
                () -> model.edge(one, two, weight), () -> x.edge(one, two, weight));
    }

    private void compare(String call, Expect.Call due, Expect.Call made) {
        if (calls == Calls.MOST) {
            return;
        }
        calls++;
        expect.equal(call, Expect.outcome(due), made);
    }

    private int node() {
        return random.nextInt(40) == 0 ? wild(8) : random.nextInt(nodes);
    }

    /** Mostly -1 .. most, at times a number far outside. */
    private int wild(int most) {
        switch (random.nextInt(10)) {
            case 0: return random.nextInt();
            case 1: return random.nextBoolean() ? Integer.MAX_VALUE : Integer.MIN_VALUE;
            default: return random.nextInt(most + 2) - 1;
        }
    }
}
