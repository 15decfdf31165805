/** Promise 3: edge. */
public final class EdgeTest {
    public static void main(String[] args) {
        Expect expect = new Expect();
        Script.play(expect, "numbers and ends", """
                begin 3
                edge 2 0 99 = 0
                edge 0 1 1 = 1
                edge 1 0 50 = 2      # two between the same nodes
                marks 0 = 0 0 0
                marks 1 = -1 0 0
                marks 2 = 0 -1 -1
                """);
        Script.play(expect, "wrong nodes", """
                begin 2
                edge 0 2 3 = throws.IndexOutOfBoundsException
                edge 2 0 3 = throws.IndexOutOfBoundsException
                edge -1 0 3 = throws.IndexOutOfBoundsException
                edge 0 -1 3 = throws.IndexOutOfBoundsException
                edge 2147483647 0 3 = throws.IndexOutOfBoundsException
                edge 0 -2147483648 3 = throws.IndexOutOfBoundsException
                edge 0 0 3 = throws.IllegalArgumentException
                edge 1 1 3 = throws.IllegalArgumentException
                mark 0 0 = throws.IndexOutOfBoundsException
                """);
        Script.play(expect, "wrong weights", """
                begin 2
                edge 0 1 0 = throws.IllegalArgumentException
                edge 0 1 100 = throws.IllegalArgumentException
                edge 0 1 -5 = throws.IllegalArgumentException
                edge 0 1 2147483647 = throws.IllegalArgumentException
                edge 0 1 -2147483648 = throws.IllegalArgumentException
                edge 0 1 7 = 0
                edge 0 1 8 = 1
                edge 1 0 7 = throws.IllegalArgumentException
                edge 0 1 8 = throws.IllegalArgumentException
                mark 0 2 = throws.IndexOutOfBoundsException
                edge 0 1 9 = 2
                """);
        Script.play(expect, "the exception named first", """
                begin 2
                edge 5 5 3 = throws.IndexOutOfBoundsException
                edge 0 5 0 = throws.IndexOutOfBoundsException
                edge 0 1 7 = 0
                edge 5 0 7 = throws.IndexOutOfBoundsException
                wake 0 = true
                edge 0 5 3 = throws.IndexOutOfBoundsException
                edge 0 0 3 = throws.IllegalArgumentException
                edge 0 1 0 = throws.IllegalArgumentException
                edge 0 1 7 = throws.IllegalArgumentException
                edge 0 1 3 = throws.IllegalStateException
                """);
        Script.play(expect, "some node is awake", """
                begin 3
                edge 0 1 7 = 0
                wake 2 = true        # without edges, and the last one
                edge 0 1 8 = throws.IllegalStateException
                mark 0 1 = throws.IndexOutOfBoundsException
                begin 3
                edge 0 1 8 = 0
                """);
        Script.play(expect, "twelve edges", """
                begin 7
                edge 0 1 1 = 0
                edge 1 2 2 = 1
                edge 2 3 3 = 2
                edge 3 4 4 = 3
                edge 4 5 5 = 4
                edge 5 6 6 = 5
                edge 6 0 7 = 6
                edge 0 2 8 = 7
                edge 1 3 9 = 8
                edge 2 4 10 = 9
                edge 3 5 11 = 10
                edge 4 6 12 = 11
                edge 5 0 13 = throws.IllegalStateException
                edge 5 0 12 = throws.IllegalArgumentException
                edge 5 5 13 = throws.IllegalArgumentException
                edge 5 7 13 = throws.IndexOutOfBoundsException
                mark 0 11 = -1
                mark 4 11 = 0
                mark 6 11 = 0
                mark 0 12 = throws.IndexOutOfBoundsException
                begin 2
                edge 0 1 13 = 0
                """);
        expect.finish();
    }
}
