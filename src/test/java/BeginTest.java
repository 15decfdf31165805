/** Promise 2: begin. */
public final class BeginTest {
    public static void main(String[] args) {
        Expect expect = new Expect();
        Script.play(expect, "wrong counts", """
                begin 0 = throws.IllegalArgumentException
                begin 8 = throws.IllegalArgumentException
                begin -1 = throws.IllegalArgumentException
                begin 2147483647 = throws.IllegalArgumentException
                begin -2147483648 = throws.IllegalArgumentException
                about 0 0 = throws.IndexOutOfBoundsException
                """);
        Script.play(expect, "one node", """
                begin 1
                node 0 = 0 0 0 0 -1 -1 -1 100 0 0
                about 1 0 = throws.IndexOutOfBoundsException
                mark 0 0 = throws.IndexOutOfBoundsException
                """);
        Script.play(expect, "seven nodes", """
                begin 7
                node 0 = 0 0 0 0 -1 -1 -1 100 0 0
                node 6 = 0 0 0 0 -1 -1 -1 100 0 0
                about 7 0 = throws.IndexOutOfBoundsException
                """);
        Script.play(expect, "in place of a network that is done", """
                begin 3
                edge 0 1 7 = 0
                edge 1 2 8 = 1
                edge 2 0 9 = 2
                wake 0 = true
                run 0 999 = 19
                weight = 15
                begin 2
                node 0 = 0 0 0 0 -1 -1 -1 100 0 0
                node 1 = 0 0 0 0 -1 -1 -1 100 0 0
                about 2 0 = throws.IndexOutOfBoundsException
                mark 0 0 = throws.IndexOutOfBoundsException
                sent = 0
                left = 0
                weight = 0
                edge 0 1 7 = 0       # the weight is free again
                mark 0 0 = 0
                begin 3
                edge 0 1 1 = 0
                mark 2 0 = -1
                """);
        Script.play(expect, "in place of a network with messages", """
                begin 3
                edge 0 1 7 = 0
                edge 1 2 8 = 1
                wake 0 = true
                wake 2 = true
                left = 2
                begin 3
                left = 0
                sent = 0
                queue 1 = empty
                handle 1 = -1
                run 0 9 = 0
                wake 0 = true
                sent = 0             # it has no edges
                """);
        Script.play(expect, "in place of a network that is still looking", """
                begin 3
                edge 0 1 1 = 0
                edge 1 2 2 = 1
                wake 2 = true
                wake 0 = true
                wake 1 = true
                handle 0 = 0
                handle 1 = 0
                handle 1 = 0
                handle 1 = 1
                handle 1 = 0
                node 1 = 1 1 1 1 0 -1 1 100 0 0
                begin 3
                node 1 = 0 0 0 0 -1 -1 -1 100 0 0
                """);
        Script.play(expect, "a call that throws changes nothing", """
                begin 2
                edge 0 1 7 = 0
                wake 0 = true
                begin 0 = throws.IllegalArgumentException
                begin 8 = throws.IllegalArgumentException
                node 0 = 2 0 0 0 -1 -1 -1 100 0 0
                queue 1 = 0@0(0,0,0)
                marks 0 = 1
                sent = 1
                """);
        expect.finish();
    }
}
