import java.util.ArrayList;
import java.util.List;

/**
 * Plays a written run of calls on a new object. A line is "call arguments = answer"; an answer
 * "throws.E" means that the call throws E (and then it is looked whether it has changed nothing),
 * no answer that it answers nothing. Beside the calls of the face there are three views, which
 * are answered by many calls: "node n" (about 0 .. 9), "marks n" (mark of every edge) and
 * "queue n" (every message, as kind@edge(numbers)). A text behind '#' is a remark.
 */
final class Script {
    private final Expect expect;
    private final String name;
    private final MergingFragments x = new MergingFragments();
    private final List<String> all = new ArrayList<>();
    private final List<String> withoutThrowing = new ArrayList<>();

    private Script(Expect expect, String name) {
        this.expect = expect;
        this.name = name;
    }

    static void play(Expect expect, String name, String text) {
        Script script = new Script(expect, name);
        int number = 0;
        for (String line : text.split("\n")) {
            number++;
            String told = line.replaceAll("#.*", "").trim();
            if (!told.isEmpty()) {
                script.playLine(number, told);
            }
        }
    }

    private void playLine(int number, String line) {
        int sign = line.indexOf('=');
        String call = (sign < 0 ? line : line.substring(0, sign)).trim();
        String due = sign < 0 ? "void" : line.substring(sign + 1).trim();
        String where = name + ", line " + number + ": " + call;
        expect.equal(where, due, () -> String.valueOf(answer(call)));
        if (isView(call)) {
            return;
        }
        all.add(call);
        if (due.startsWith("throws.")) {
            new Twins(expect, withoutThrowing).expectSame("after " + where, all);
        } else {
            withoutThrowing.add(call);
        }
    }

    private static boolean isView(String call) {
        return call.startsWith("node ") || call.startsWith("marks ") || call.startsWith("queue ");
    }

    private Object answer(String call) {
        if (!isView(call)) {
            return Calls.make(x, call);
        }
        int node = Integer.parseInt(call.substring(call.indexOf(' ') + 1));
        switch (call.charAt(0)) {
            case 'n': return View.node(x, node);
            case 'm': return View.marks(x, node);
            default: return View.queue(x, node);
        }
    }
}
