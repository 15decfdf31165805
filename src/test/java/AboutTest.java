/** Promise 7: about. */
public final class AboutTest {
    public static void main(String[] args) {
        Expect expect = new Expect();
        Script.play(expect, "no nodes at all", """
                about 0 0 = throws.IndexOutOfBoundsException
                about 0 10 = throws.IndexOutOfBoundsException
                """);
        Script.play(expect, "no such node", """
                begin 2
                about 2 0 = throws.IndexOutOfBoundsException
                about -1 0 = throws.IndexOutOfBoundsException
                about 256 0 = throws.IndexOutOfBoundsException
                about 2147483647 0 = throws.IndexOutOfBoundsException
                about -2147483648 0 = throws.IndexOutOfBoundsException
                about 0 0 = 0
                about 1 0 = 0
                """);
        Script.play(expect, "no such node of seven", """
                begin 7
                about 7 0 = throws.IndexOutOfBoundsException
                about 6 0 = 0
                begin 6
                about 6 0 = throws.IndexOutOfBoundsException
                about 5 0 = 0
                """);
        Script.play(expect, "what is one too small, or the least", """
                begin 1
                wake 0 = true
                about 0 -1 = throws.IllegalArgumentException
                about 0 -2147483648 = throws.IllegalArgumentException
                about 0 0 = 2
                """);
        Script.play(expect, "what is one too large, or the most", """
                begin 2
                edge 0 1 7 = 0
                wake 0 = true
                run 0 999 = 6
                about 0 10 = throws.IllegalArgumentException
                about 0 256 = throws.IllegalArgumentException
                about 0 2147483647 = throws.IllegalArgumentException
                about 0 9 = 1
                """);
        Script.play(expect, "where both exceptions fit", """
                begin 2
                about 2 10 = throws.IndexOutOfBoundsException
                about 2 -1 = throws.IndexOutOfBoundsException
                about -1 10 = throws.IndexOutOfBoundsException
                about -1 -1 = throws.IndexOutOfBoundsException
                """);
        Script.play(expect, "a node without edges is never DONE", """
                begin 1
                wake 0 = true
                run 0 999 = 0
                node 0 = 2 0 0 0 -1 -1 -1 100 0 0
                """);
        Script.play(expect, "the first edge, 0, is not taken for none", """
                begin 3
                edge 1 2 8 = 0
                edge 0 1 7 = 1
                wake 1 = true
                handle 0 = 0
                handle 1 = 0
                handle 1 = 1
                about 1 4 = 1
                about 1 6 = 0        # it tests edge 0
                about 0 6 = -1
                run 0 999 = 16
                about 2 4 = 0        # its WAY IN is edge 0
                """);
        Script.play(expect, "a node that is asleep", """
                begin 2
                edge 0 1 7 = 0
                about 0 0 = 0
                about 0 1 = 0
                about 0 2 = 0
                about 0 3 = 0
                about 0 4 = -1
                about 0 5 = -1
                about 0 6 = -1
                about 0 7 = 100
                about 0 8 = 0
                about 0 9 = 0
                """);
        Script.play(expect, "a node that waits, has a BEST and tests", """
                begin 5
                edge 3 4 3 = 0
                edge 0 1 1 = 1
                edge 1 2 2 = 2
                edge 2 3 4 = 3
                edge 1 4 9 = 4
                wake 2 = true
                wake 0 = true
                wake 3 = true
                wake 4 = true
                run 0 2 = 2
                run 1 5 = 5
                run 1 5 = 5
                run 2 6 = 6
                node 1 = 1 1 1 1 1 -1 2 100 1 0
                about 1 0 = 1
                about 1 1 = 1
                about 1 2 = 1
                about 1 3 = 1
                about 1 4 = 1
                about 1 5 = -1
                about 1 6 = 2
                about 1 7 = 100
                about 1 8 = 1
                about 1 9 = 0
                """);
        Script.play(expect, "nodes that are done, and one that is not", """
                begin 3
                edge 0 1 7 = 0
                edge 1 2 8 = 1
                wake 0 = true
                run 0 999 = 16
                node 0 = 2 1 7 0 0 -1 -1 100 0 1
                node 1 = 2 1 7 0 0 -1 -1 100 0 1
                node 2 = 2 1 7 0 1 -1 -1 100 0 0
                """);
        expect.finish();
    }
}
