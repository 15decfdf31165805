/** Promise 2: begin. */
public final class BeginTest {
    public static void main(String[] args) {
        Expect expect = new Expect();
        Script.play(expect, "0 nodes are one too few", """
                begin 0 = throws.IllegalArgumentException
                about 0 0 = throws.IndexOutOfBoundsException   # there are still none
                """);
        Script.play(expect, "1 node is the least", """
                begin 1
                node 0 = 0 0 0 0 -1 -1 -1 100 0 0
                about 1 0 = throws.IndexOutOfBoundsException
                mark 0 0 = throws.IndexOutOfBoundsException
                """);
        Script.play(expect, "7 nodes are the most", """
                begin 7
                node 0 = 0 0 0 0 -1 -1 -1 100 0 0
                node 6 = 0 0 0 0 -1 -1 -1 100 0 0
                about 7 0 = throws.IndexOutOfBoundsException
                mark 6 0 = throws.IndexOutOfBoundsException
                """);
        Script.play(expect, "8 nodes are one too many", """
                begin 8 = throws.IllegalArgumentException
                about 0 0 = throws.IndexOutOfBoundsException
                """);
        Script.play(expect, "counts far outside", """
                begin -1 = throws.IllegalArgumentException
                begin 257 = throws.IllegalArgumentException     # 1 in its lowest byte
                begin 65537 = throws.IllegalArgumentException
                begin 2147483647 = throws.IllegalArgumentException
                begin -2147483648 = throws.IllegalArgumentException
                about 0 0 = throws.IndexOutOfBoundsException
                """);
        Script.play(expect, "from the most nodes to the least, and back", """
                begin 7
                wake 6 = true
                begin 1
                about 1 0 = throws.IndexOutOfBoundsException
                about 0 0 = 0
                begin 7
                about 6 0 = 0        # asleep again
                wake 6 = true
                begin 7              # the same count again is a new network too
                about 6 0 = 0
                """);
        Script.play(expect, "in place of a network with all twelve edges", """
                begin 2
                edge 0 1 1 = 0
                edge 0 1 2 = 1
                edge 0 1 3 = 2
                edge 0 1 4 = 3
                edge 0 1 5 = 4
                edge 0 1 6 = 5
                edge 0 1 7 = 6
                edge 0 1 8 = 7
                edge 0 1 9 = 8
                edge 0 1 10 = 9
                edge 0 1 11 = 10
                edge 0 1 12 = 11
                begin 2
                mark 0 0 = throws.IndexOutOfBoundsException
                edge 0 1 12 = 0
                """);
        Script.play(expect, "in place of a network that is done", """
                begin 3
                edge 0 1 7 = 0
                edge 1 2 8 = 1
                edge 2 0 9 = 2
                wake 0 = true
                run 0 999 = 19
                weight = 15
                begin 2
                node 0 = 0 0 0 0 -1 -1 -1 100 0 0
                node 1 = 0 0 0 0 -1 -1 -1 100 0 0
                about 2 0 = throws.IndexOutOfBoundsException
                mark 0 0 = throws.IndexOutOfBoundsException
                sent = 0
                left = 0
                weight = 0
                edge 0 1 7 = 0       # the weight is free again
                mark 0 0 = 0
                begin 3
                edge 0 1 1 = 0
                mark 2 0 = -1
                """);
        Script.play(expect, "in place of a network with messages", """
                begin 3
                edge 0 1 7 = 0
                edge 1 2 8 = 1
                wake 0 = true
                wake 2 = true
                left = 2
                begin 3
                left = 0
                sent = 0
                queue 1 = empty
                handle 1 = -1
                run 0 9 = 0
                wake 0 = true
                sent = 0             # it has no edges
                """);
        Script.play(expect, "in place of a network that is still looking", """
                begin 3
                edge 0 1 1 = 0
                edge 1 2 2 = 1
                wake 2 = true
                wake 0 = true
                wake 1 = true
                handle 0 = 0
                handle 1 = 0
                handle 1 = 0
                handle 1 = 1
                handle 1 = 0
                node 1 = 1 1 1 1 0 -1 1 100 0 0
                begin 3
                node 1 = 0 0 0 0 -1 -1 -1 100 0 0
                """);
        Script.play(expect, "a call that throws changes nothing", """
                begin 2
                edge 0 1 7 = 0
                wake 0 = true
                begin 0 = throws.IllegalArgumentException
                begin 8 = throws.IllegalArgumentException
                node 0 = 2 0 0 0 -1 -1 -1 100 0 0
                queue 1 = 0@0(0,0,0)
                marks 0 = 1
                sent = 1
                """);
        expect.finish();
    }
}
