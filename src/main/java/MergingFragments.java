import java.util.ArrayList;
import java.util.Arrays;

/**
 * A network whose nodes find its tree of least weight by messages alone. Who wakes, and whose
 * message is handled next, is up to the caller.
 */
public final class MergingFragments {
    public static final int NONE = -1;

    private static final int MOST_NODES = 7;
    private static final int MOST_EDGES = 12;
    private static final int MOST_WEIGHT = 99;
    private static final int MOST_HANDLED = 999;

    /** The weight of BEST when there is none: heavier than any edge. */
    private static final int NO_WEIGHT = 100;

    private static final int ASLEEP = 0;
    private static final int FIND = 1;
    private static final int FOUND = 2;

    private static final int BASIC = 0;
    private static final int BRANCH = 1;
    private static final int REJECTED = 2;

    private static final int CONNECT = 0;
    private static final int INITIATE = 1;
    private static final int TEST = 2;
    private static final int ACCEPT = 3;
    private static final int REJECT = 4;
    private static final int REPORT = 5;
    private static final int CORE = 6;

    private final Node[] nodes = new Node[MOST_NODES];
    private final int[] ones = new int[MOST_EDGES];
    private final int[] twos = new int[MOST_EDGES];
    private final int[] weights = new int[MOST_EDGES];
    private int nodeCount = 0;
    private int edgeCount = 0;
    private int sentCount = 0;

    /** A message that came over an edge; numbers that its kind does not have are 0. */
    private record Message(int kind, int over, int first, int second, int third) {
    }

    /** What one node knows. */
    private static final class Node {
        private final int number;
        private final int[] marks = new int[MOST_EDGES];
        private final ArrayList<Message> queue = new ArrayList<>();
        private int state;
        private int level;
        private int fragment;
        private int answers;
        private int wayIn;
        private int best;
        private int bestWeight;
        private int tested;
        private boolean done;

        private Node(int number) {
            this.number = number;
            reset();
        }

        private void reset() {
            Arrays.fill(marks, NONE);
            queue.clear();
            state = ASLEEP;
            level = 0;
            fragment = 0;
            answers = 0;
            wayIn = NONE;
            tested = NONE;
            done = false;
            forgetBest();
        }

        private void forgetBest() {
            best = NONE;
            bestWeight = NO_WEIGHT;
        }

        private void improveBest(int edge, int weight) {
            if (weight < bestWeight) {
                best = edge;
                bestWeight = weight;
            }
        }

        private void rejectIfBasic(int edge) {
            if (marks[edge] == BASIC) {
                marks[edge] = REJECTED;
            }
        }

        private void putBack(Message message) {
            queue.add(message);
        }
    }

    public MergingFragments() {
        for (int i = 0; i < MOST_NODES; i++) {
            nodes[i] = new Node(i);
        }
    }

    public void begin(int n) throws IllegalArgumentException {
        if (n < 1 || n > MOST_NODES) {
            throw new IllegalArgumentException("a network has 1 to 7 nodes");
        }
        for (int i = 0; i < MOST_NODES; i++) {
            nodes[i].reset();
        }
        nodeCount = n;
        edgeCount = 0;
        sentCount = 0;
    }

    public int edge(int one, int two, int weight)
            throws IndexOutOfBoundsException, IllegalArgumentException, IllegalStateException {
        requireNode(one);
        requireNode(two);
        if (one == two) {
            throw new IllegalArgumentException("an edge is between two different nodes");
        }
        if (weight < 1 || weight > MOST_WEIGHT || isTaken(weight)) {
            throw new IllegalArgumentException("a weight is 1 to 99, and no other edge has it");
        }
        if (isSomeNodeAwake() || edgeCount == MOST_EDGES) {
            throw new IllegalStateException("no edge can be added any more");
        }
        int edge = edgeCount;
        ones[edge] = one;
        twos[edge] = two;
        weights[edge] = weight;
        nodes[one].marks[edge] = BASIC;
        nodes[two].marks[edge] = BASIC;
        edgeCount++;
        return edge;
    }

    public boolean wake(int node) throws IndexOutOfBoundsException {
        requireNode(node);
        if (nodes[node].state != ASLEEP) {
            return false;
        }
        wakeIfAsleep(nodes[node]);
        return true;
    }

    public int handle(int node) throws IndexOutOfBoundsException {
        requireNode(node);
        return handleFirst(nodes[node]);
    }

    public int run(int first, int most) throws IndexOutOfBoundsException, IllegalArgumentException {
        requireNode(first);
        if (most < 0 || most > MOST_HANDLED) {
            throw new IllegalArgumentException("a run handles 0 to 999 messages at most");
        }
        int handled = 0;
        int at = first;
        // A round of all nodes handles at least one message while there are any, so this many
        // turns are always enough.
        int turns = most * nodeCount;
        for (int turn = 0; turn < turns && handled < most && left() > 0; turn++) {
            if (handleFirst(nodes[at]) != NONE) {
                handled++;
            }
            at = at + 1 < nodeCount ? at + 1 : 0;
        }
        return handled;
    }

    public int about(int node, int what) throws IndexOutOfBoundsException, IllegalArgumentException {
        requireNode(node);
        Node asked = nodes[node];
        switch (what) {
            case 0:
                return asked.state;
            case 1:
                return asked.level;
            case 2:
                return asked.fragment;
            case 3:
                return asked.answers;
            case 4:
                return asked.wayIn;
            case 5:
                return asked.best;
            case 6:
                return asked.tested;
            case 7:
                return asked.bestWeight;
            case 8:
                return asked.queue.size();
            case 9:
                return asked.done ? 1 : 0;
            default:
                throw new IllegalArgumentException("what is 0 to 9");
        }
    }

    public int mark(int node, int edge) throws IndexOutOfBoundsException {
        requireNode(node);
        if (edge < 0 || edge >= edgeCount) {
            throw new IndexOutOfBoundsException("there is no such edge");
        }
        return nodes[node].marks[edge];
    }

    public int message(int node, int i, int what)
            throws IndexOutOfBoundsException, IllegalArgumentException {
        requireNode(node);
        ArrayList<Message> queue = nodes[node].queue;
        if (i < 0 || i >= queue.size()) {
            throw new IndexOutOfBoundsException("there is no such message");
        }
        Message asked = queue.get(i);
        switch (what) {
            case 0:
                return asked.kind();
            case 1:
                return asked.over();
            case 2:
                return asked.first();
            case 3:
                return asked.second();
            case 4:
                return asked.third();
            default:
                throw new IllegalArgumentException("what is 0 to 4");
        }
    }

    public int sent() {
        return sentCount;
    }

    public int left() {
        int sum = 0;
        for (int i = 0; i < nodeCount; i++) {
            sum += nodes[i].queue.size();
        }
        return sum;
    }

    public int weight() {
        int sum = 0;
        for (int j = 0; j < edgeCount; j++) {
            if (nodes[ones[j]].marks[j] == BRANCH && nodes[twos[j]].marks[j] == BRANCH) {
                sum += weights[j];
            }
        }
        return sum;
    }

    private void requireNode(int node) {
        if (node < 0 || node >= nodeCount) {
            throw new IndexOutOfBoundsException("there is no such node");
        }
    }

    private boolean isTaken(int weight) {
        for (int j = 0; j < edgeCount; j++) {
            if (weights[j] == weight) {
                return true;
            }
        }
        return false;
    }

    private boolean isSomeNodeAwake() {
        for (int i = 0; i < nodeCount; i++) {
            if (nodes[i].state != ASLEEP) {
                return true;
            }
        }
        return false;
    }

    private int lightestBasic(Node node) {
        int lightest = NONE;
        for (int j = 0; j < edgeCount; j++) {
            if (node.marks[j] == BASIC && (lightest == NONE || weights[j] < weights[lightest])) {
                lightest = j;
            }
        }
        return lightest;
    }

    private void send(Node from, Message message) {
        int over = message.over();
        // No run of calls leads to a send over WAY IN while it is none; the document asks for
        // nothing there.
        if (over == NONE) {
            return;
        }
        int to = ones[over] == from.number ? twos[over] : ones[over];
        nodes[to].queue.add(message);
        sentCount++;
    }

    private void wakeIfAsleep(Node node) {
        if (node.state != ASLEEP) {
            return;
        }
        node.state = FOUND;
        // All edges of a node that is asleep are BASIC, so this is the lightest of all.
        int edge = lightestBasic(node);
        if (edge != NONE) {
            node.marks[edge] = BRANCH;
            send(node, new Message(CONNECT, edge, 0, 0, 0));
        }
    }

    private void testLightest(Node node) {
        node.tested = lightestBasic(node);
        if (node.tested != NONE) {
            send(node, new Message(TEST, node.tested, node.level, node.fragment, 0));
        } else {
            reportIfReady(node);
        }
    }

    private void reportIfReady(Node node) {
        if (node.answers == 0 && node.tested == NONE) {
            node.state = FOUND;
            send(node, new Message(REPORT, node.wayIn, node.bestWeight, 0, 0));
        }
    }

    private void moveCore(Node node) {
        // The core moves only towards a BEST that was reported, so no run of calls leads here
        // without one; the document asks for nothing there.
        if (node.best == NONE) {
            return;
        }
        if (node.marks[node.best] == BRANCH) {
            send(node, new Message(CORE, node.best, 0, 0, 0));
        } else {
            send(node, new Message(CONNECT, node.best, node.level, 0, 0));
            node.marks[node.best] = BRANCH;
        }
    }

    private int handleFirst(Node node) {
        if (node.queue.isEmpty()) {
            return NONE;
        }
        Message message = node.queue.remove(0);
        switch (message.kind()) {
            case CONNECT:
                handleConnect(node, message);
                break;
            case INITIATE:
                handleInitiate(node, message);
                break;
            case TEST:
                handleTest(node, message);
                break;
            case ACCEPT:
                handleAccept(node, message);
                break;
            case REJECT:
                handleReject(node, message);
                break;
            case REPORT:
                handleReport(node, message);
                break;
            default:
                moveCore(node);
                break;
        }
        return message.kind();
    }

    private void handleConnect(Node node, Message message) {
        wakeIfAsleep(node);
        int over = message.over();
        if (message.first() < node.level) {
            node.marks[over] = BRANCH;
            send(node, new Message(INITIATE, over, node.level, node.fragment, node.state));
            if (node.state == FIND) {
                node.answers++;
            }
        } else if (node.marks[over] == BASIC) {
            node.putBack(message);
        } else {
            send(node, new Message(INITIATE, over, node.level + 1, weights[over], FIND));
        }
    }

    private void handleInitiate(Node node, Message message) {
        node.level = message.first();
        node.fragment = message.second();
        node.state = message.third();
        node.wayIn = message.over();
        node.forgetBest();
        for (int j = 0; j < edgeCount; j++) {
            if (node.marks[j] == BRANCH && j != node.wayIn) {
                send(node, new Message(INITIATE, j, node.level, node.fragment, node.state));
                if (node.state == FIND) {
                    node.answers++;
                }
            }
        }
        if (node.state == FIND) {
            testLightest(node);
        }
    }

    private void handleTest(Node node, Message message) {
        wakeIfAsleep(node);
        int over = message.over();
        if (message.first() > node.level) {
            node.putBack(message);
        } else if (message.second() != node.fragment) {
            send(node, new Message(ACCEPT, over, 0, 0, 0));
        } else {
            node.rejectIfBasic(over);
            if (node.tested != over) {
                send(node, new Message(REJECT, over, 0, 0, 0));
            } else {
                testLightest(node);
            }
        }
    }

    private void handleAccept(Node node, Message message) {
        node.tested = NONE;
        node.improveBest(message.over(), weights[message.over()]);
        reportIfReady(node);
    }

    private void handleReject(Node node, Message message) {
        node.rejectIfBasic(message.over());
        testLightest(node);
    }

    private void handleReport(Node node, Message message) {
        int reported = message.first();
        if (message.over() != node.wayIn) {
            node.answers--;
            node.improveBest(message.over(), reported);
            reportIfReady(node);
        } else if (node.state == FIND) {
            node.putBack(message);
        } else if (reported > node.bestWeight) {
            moveCore(node);
        } else if (reported == NO_WEIGHT) {
            node.done = true;
        }
    }
}
