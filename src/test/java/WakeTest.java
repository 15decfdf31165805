/** Promise 4: wake. */
public final class WakeTest {
    public static void main(String[] args) {
        Expect expect = new Expect();
        Script.play(expect, "a node without edges", """
                begin 1
                wake 0 = true
                node 0 = 2 0 0 0 -1 -1 -1 100 0 0
                sent = 0
                wake 0 = false
                """);
        Script.play(expect, "over the edge of least weight", """
                begin 4
                edge 0 1 9 = 0
                edge 2 0 4 = 1
                edge 0 3 6 = 2
                edge 1 3 1 = 3
                wake 0 = true
                node 0 = 2 0 0 0 -1 -1 -1 100 0 0
                marks 0 = 0 1 0 -1
                marks 2 = -1 0 -1 -1
                queue 2 = 0@1(0,0,0)
                about 2 0 = 0        # a message alone does not wake
                left = 1
                sent = 1
                wake 0 = false
                sent = 1
                wake 3 = true
                marks 3 = -1 -1 0 1
                queue 1 = 0@3(0,0,0)
                wake 2 = true
                queue 0 = 0@1(0,0,0)
                queue 2 = 0@1(0,0,0)
                sent = 3
                """);
        Script.play(expect, "woken by a message", """
                begin 2
                edge 0 1 7 = 0
                wake 0 = true
                handle 1 = 0
                wake 1 = false
                sent = 3
                """);
        Script.play(expect, "wrong nodes", """
                begin 2
                wake 2 = throws.IndexOutOfBoundsException
                wake -1 = throws.IndexOutOfBoundsException
                wake 2147483647 = throws.IndexOutOfBoundsException
                wake -2147483648 = throws.IndexOutOfBoundsException
                sent = 0
                about 0 0 = 0
                about 1 0 = 0
                """);
        expect.finish();
    }
}
