import java.util.ArrayList;
import java.util.List;

/** What can be asked of an object, as texts. */
final class View {
    private View() {
    }

    /** The answers of about 0 .. 9. */
    static String node(MergingFragments x, int node) {
        List<String> parts = new ArrayList<>();
        for (int what = 0; what <= 9; what++) {
            parts.add(String.valueOf(x.about(node, what)));
        }
        return String.join(" ", parts);
    }

    /** The mark of every edge. */
    static String marks(MergingFragments x, int node) {
        return marks(x, node, edges(x));
    }

    /** Every message, as kind@edge(numbers). */
    static String queue(MergingFragments x, int node) {
        List<String> parts = new ArrayList<>();
        int size = x.about(node, 8);
        for (int i = 0; i < size; i++) {
            parts.add(x.message(node, i, 0) + "@" + x.message(node, i, 1) + "(" + x.message(node, i, 2)
                    + "," + x.message(node, i, 3) + "," + x.message(node, i, 4) + ")");
        }
        return parts.isEmpty() ? "empty" : String.join(" ", parts);
    }

    /** All that can be asked. */
    static String all(MergingFragments x) {
        StringBuilder text = new StringBuilder();
        int nodes = nodes(x);
        int edges = nodes == 0 ? 0 : edges(x);
        for (int node = 0; node < nodes; node++) {
            text.append("node ").append(node).append(": ").append(node(x, node));
            text.append(" | ").append(marks(x, node, edges)).append(" | ").append(queue(x, node)).append('\n');
        }
        return text + "sent " + x.sent() + " left " + x.left() + " weight " + x.weight();
    }

    static int nodes(MergingFragments x) {
        int count = 0;
        try {
            while (true) {
                x.about(count, 0);
                count++;
            }
        } catch (IndexOutOfBoundsException e) {
            return count;
        }
    }

    private static int edges(MergingFragments x) {
        int count = 0;
        try {
            while (true) {
                x.mark(0, count);
                count++;
            }
        } catch (IndexOutOfBoundsException e) {
            return count;
        }
    }

    private static String marks(MergingFragments x, int node, int edges) {
        List<String> parts = new ArrayList<>();
        for (int edge = 0; edge < edges; edge++) {
            parts.add(String.valueOf(x.mark(node, edge)));
        }
        return String.join(" ", parts);
    }
}
