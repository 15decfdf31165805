/** Promise 8: mark. */
public final class MarkTest {
    public static void main(String[] args) {
        Expect expect = new Expect();
        Script.play(expect, "no nodes at all", """
                mark 0 0 = throws.IndexOutOfBoundsException
                """);
        Script.play(expect, "no edges", """
                begin 2
                mark 0 0 = throws.IndexOutOfBoundsException
                mark 0 -1 = throws.IndexOutOfBoundsException
                mark 1 0 = throws.IndexOutOfBoundsException
                """);
        Script.play(expect, "no such node", """
                begin 2
                edge 0 1 7 = 0
                mark 2 0 = throws.IndexOutOfBoundsException
                mark -1 0 = throws.IndexOutOfBoundsException
                mark 256 0 = throws.IndexOutOfBoundsException
                mark 2147483647 0 = throws.IndexOutOfBoundsException
                mark -2147483648 0 = throws.IndexOutOfBoundsException
                mark 0 0 = 0
                mark 1 0 = 0
                """);
        Script.play(expect, "no such node of seven", """
                begin 7
                edge 0 1 7 = 0
                mark 7 0 = throws.IndexOutOfBoundsException
                mark 6 0 = -1
                begin 6
                edge 0 1 7 = 0
                mark 6 0 = throws.IndexOutOfBoundsException
                mark 5 0 = -1
                """);
        Script.play(expect, "no such edge", """
                begin 2
                edge 0 1 7 = 0
                edge 0 1 8 = 1
                mark 0 -1 = throws.IndexOutOfBoundsException
                mark 0 2 = throws.IndexOutOfBoundsException
                mark 0 11 = throws.IndexOutOfBoundsException
                mark 0 12 = throws.IndexOutOfBoundsException
                mark 0 256 = throws.IndexOutOfBoundsException
                mark 0 2147483647 = throws.IndexOutOfBoundsException
                mark 0 -2147483648 = throws.IndexOutOfBoundsException
                mark 0 0 = 0
                mark 0 1 = 0
                """);
        Script.play(expect, "no such edge beside all twelve", """
                begin 3
                edge 0 1 1 = 0
                edge 0 1 2 = 1
                edge 0 1 3 = 2
                edge 0 1 4 = 3
                edge 0 1 5 = 4
                edge 0 1 6 = 5
                edge 0 1 7 = 6
                edge 0 1 8 = 7
                edge 0 1 9 = 8
                edge 0 1 10 = 9
                edge 0 1 11 = 10
                mark 1 11 = throws.IndexOutOfBoundsException
                edge 0 1 12 = 11
                mark 1 11 = 0
                mark 2 11 = -1
                mark 1 12 = throws.IndexOutOfBoundsException
                """);
        Script.play(expect, "neither node nor edge", """
                begin 2
                edge 0 1 7 = 0
                mark 2 1 = throws.IndexOutOfBoundsException
                mark -1 -1 = throws.IndexOutOfBoundsException
                """);
        Script.play(expect, "edges that the network before had", """
                begin 2
                edge 0 1 7 = 0
                edge 0 1 8 = 1
                begin 2
                mark 0 0 = throws.IndexOutOfBoundsException
                edge 0 1 9 = 0
                mark 0 0 = 0
                mark 0 1 = throws.IndexOutOfBoundsException
                """);
        Script.play(expect, "a node without edges", """
                begin 3
                edge 0 1 7 = 0
                edge 1 0 8 = 1
                wake 2 = true
                wake 0 = true
                run 0 999 = 8
                marks 2 = -1 -1
                marks 0 = 1 2
                """);
        Script.play(expect, "each end for itself", """
                begin 3
                edge 0 1 7 = 0
                edge 1 2 8 = 1
                edge 2 0 9 = 2
                mark 0 0 = 0
                mark 1 0 = 0
                mark 2 0 = -1
                mark 0 1 = -1
                wake 0 = true
                mark 0 0 = 1
                mark 1 0 = 0
                mark 0 2 = 0
                run 0 999 = 19
                marks 0 = 1 -1 2
                marks 1 = 1 1 -1
                marks 2 = -1 1 2
                """);
        expect.finish();
    }
}
