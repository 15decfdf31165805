import java.util.List;

/** Makes calls that are written as texts, such as "edge 0 1 7". */
final class Calls {
    /** The document promises nothing of an object beyond so many calls. */
    static final int MOST = 512;

    private Calls() {
    }

    static Object make(MergingFragments x, String call) {
        String[] words = call.split(" +");
        int[] a = new int[3];
        for (int i = 1; i < words.length; i++) {
            a[i - 1] = Integer.parseInt(words[i]);
        }
        switch (words[0] + "/" + (words.length - 1)) {
            case "begin/1": x.begin(a[0]); return "void";
            case "edge/3": return x.edge(a[0], a[1], a[2]);
            case "wake/1": return x.wake(a[0]);
            case "handle/1": return x.handle(a[0]);
            case "run/2": return x.run(a[0], a[1]);
            case "about/2": return x.about(a[0], a[1]);
            case "mark/2": return x.mark(a[0], a[1]);
            case "message/3": return x.message(a[0], a[1], a[2]);
            case "sent/0": return x.sent();
            case "left/0": return x.left();
            case "weight/0": return x.weight();
            default: throw new AssertionError("no such call: " + call);
        }
    }

    /** A new object after all these calls, whether they threw or not. */
    static MergingFragments replay(List<String> calls) {
        MergingFragments x = new MergingFragments();
        for (String call : calls) {
            Expect.outcome(() -> make(x, call));
        }
        return x;
    }
}
