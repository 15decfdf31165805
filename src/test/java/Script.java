import java.util.ArrayList;
import java.util.List;

/**
 * Plays a written run of calls on a new object. A line is "call arguments = answer"; an answer
 * "throws.E" means that the call throws E, "void" that it answers nothing. Beside the calls of
 * the face there are three views, which are answered by many calls: "node n" (about 0 .. 9),
 * "marks n" (mark of every edge) and "queue n" (every message, as kind@edge(numbers)).
 * A text behind '#' is a remark.
 */
final class Script {
    private final Expect expect;
    private final String name;
    private final MergingFragments x = new MergingFragments();

    private Script(Expect expect, String name) {
        this.expect = expect;
        this.name = name;
    }

    static void play(Expect expect, String name, String text) {
        Script script = new Script(expect, name);
        int number = 0;
        for (String line : text.split("\n")) {
            number++;
            String told = line.replaceAll("#.*", "").trim();
            if (!told.isEmpty()) {
                script.playLine(number, told);
            }
        }
    }

    private void playLine(int number, String line) {
        int sign = line.indexOf('=');
        String call = (sign < 0 ? line : line.substring(0, sign)).trim();
        String due = sign < 0 ? "void" : line.substring(sign + 1).trim();
        expect.equal(name + ", line " + number + ": " + call, due, () -> String.valueOf(answer(call)));
    }

    private Object answer(String call) {
        String[] words = call.split(" +");
        int[] a = new int[3];
        for (int i = 1; i < words.length; i++) {
            a[i - 1] = Integer.parseInt(words[i]);
        }
        switch (words[0] + "/" + (words.length - 1)) {
            case "begin/1": x.begin(a[0]); return "void";
            case "edge/3": return x.edge(a[0], a[1], a[2]);
            case "wake/1": return x.wake(a[0]);
            case "handle/1": return x.handle(a[0]);
            case "run/2": return x.run(a[0], a[1]);
            case "about/2": return x.about(a[0], a[1]);
            case "mark/2": return x.mark(a[0], a[1]);
            case "message/3": return x.message(a[0], a[1], a[2]);
            case "sent/0": return x.sent();
            case "left/0": return x.left();
            case "weight/0": return x.weight();
            case "node/1": return node(x, a[0]);
            case "marks/1": return marks(x, a[0]);
            case "queue/1": return queue(x, a[0]);
            default: throw new AssertionError("no such call: " + call);
        }
    }

    static String node(MergingFragments x, int node) {
        List<String> parts = new ArrayList<>();
        for (int what = 0; what <= 9; what++) {
            parts.add(String.valueOf(x.about(node, what)));
        }
        return String.join(" ", parts);
    }

    static String marks(MergingFragments x, int node) {
        List<String> parts = new ArrayList<>();
        for (int edge = 0; edge < edges(x); edge++) {
            parts.add(String.valueOf(x.mark(node, edge)));
        }
        return String.join(" ", parts);
    }

    static String queue(MergingFragments x, int node) {
        List<String> parts = new ArrayList<>();
        for (int i = 0; i < x.about(node, 8); i++) {
            parts.add(x.message(node, i, 0) + "@" + x.message(node, i, 1) + "(" + x.message(node, i, 2)
                    + "," + x.message(node, i, 3) + "," + x.message(node, i, 4) + ")");
        }
        return parts.isEmpty() ? "empty" : String.join(" ", parts);
    }

    /** All that can be asked of an object, in one text. */
    static String all(MergingFragments x) {
        StringBuilder text = new StringBuilder();
        for (int node = 0; node < nodes(x); node++) {
            text.append("node ").append(node).append(": ").append(node(x, node));
            text.append(" | ").append(marks(x, node)).append(" | ").append(queue(x, node)).append('\n');
        }
        return text + "sent " + x.sent() + " left " + x.left() + " weight " + x.weight();
    }

    private static int nodes(MergingFragments x) {
        int count = 0;
        while (answers(x, count)) {
            count++;
        }
        return count;
    }

    private static boolean answers(MergingFragments x, int node) {
        try {
            x.about(node, 0);
            return true;
        } catch (IndexOutOfBoundsException e) {
            return false;
        }
    }

    private static int edges(MergingFragments x) {
        int count = 0;
        try {
            while (true) {
                x.mark(0, count);
                count++;
            }
        } catch (IndexOutOfBoundsException e) {
            return count;
        }
    }
}
