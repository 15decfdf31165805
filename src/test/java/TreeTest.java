import java.util.Random;

/**
 * Promises 4, 5 and 12 together: in whatever order nodes wake and handle, they end with the tree
 * of least weight in each part of the network, and both ends of its core know that they are done.
 */
public final class TreeTest {
    private static final int NETWORKS = 4000;

    /** So few that an object never has more than 512 calls; most networks need less. */
    private static final int FREE_STEPS = 450;

    private final Expect expect = new Expect();
    private final Random random = new Random(7);

    public static void main(String[] args) {
        new TreeTest().playAll();
    }

    private void playAll() {
        for (int i = 0; i < NETWORKS; i++) {
            playOne(i);
        }
        expect.finish();
    }

    private void playOne(int number) {
        MergingFragments x = new MergingFragments();
        Model model = new Model();
        int nodes = 1 + random.nextInt(7);
        x.begin(nodes);
        model.begin(nodes);
        int edges = nodes == 1 ? 0 : random.nextInt(13);
        int[] group = new int[nodes];
        for (int i = 0; i < nodes; i++) {
            group[i] = i;
        }
        for (int j = 0; j < edges; j++) {
            int one = random.nextInt(nodes);
            int two = (one + 1 + random.nextInt(nodes - 1)) % nodes;
            int weight = 1 + (j * 37 + number) % 99;
            x.edge(one, two, weight);
            model.edge(one, two, weight);
            join(group, one, two);
        }
        playToTheEnd(x, nodes);
        expect.equal("network " + number + ": weight()", model.lightestWeight(), x::weight);
        for (int part = 0; part < nodes; part++) {
            checkDone(x, "network " + number, group, part);
        }
    }

    private static void join(int[] group, int one, int two) {
        int from = group[one];
        for (int i = 0; i < group.length; i++) {
            group[i] = group[i] == from ? group[two] : group[i];
        }
    }

    private void playToTheEnd(MergingFragments x, int nodes) {
        int favourite = random.nextInt(nodes);
        for (int step = 0; step < FREE_STEPS; step++) {
            int node = random.nextInt(3) == 0 ? favourite : random.nextInt(nodes);
            if (random.nextInt(4) == 0) {
                x.wake(node);
            } else {
                x.handle(node);
            }
        }
        for (int i = 0; i < nodes; i++) {
            x.wake(i);
        }
        x.run(favourite, 999);
        expect.equal("left() in the end", 0, x::left);
    }

    private void checkDone(MergingFragments x, String name, int[] group, int part) {
        int members = 0;
        int done = 0;
        for (int i = 0; i < group.length; i++) {
            if (group[i] == part) {
                members++;
                done += x.about(i, 9);
                expect.equal(name + ": the answers that node " + i + " waits for", 0, waiting(x, i));
            }
        }
        int due = members > 1 ? 2 : 0;
        int counted = done;
        expect.equal(name + ": how many nodes of part " + part + " are done", due, () -> counted);
    }

    private static Expect.Call waiting(MergingFragments x, int node) {
        return () -> x.about(node, 3);
    }
}
