/** Promise 6: run. */
public final class RunTest {
    public static void main(String[] args) {
        Expect expect = new Expect();
        Script.play(expect, "no nodes at all", """
                run 0 5 = throws.IndexOutOfBoundsException
                run 0 0 = throws.IndexOutOfBoundsException
                run 0 -1 = throws.IndexOutOfBoundsException
                """);
        Script.play(expect, "first: no such node", """
                begin 2
                edge 0 1 7 = 0
                wake 0 = true
                run 2 5 = throws.IndexOutOfBoundsException
                run -1 5 = throws.IndexOutOfBoundsException
                run 256 5 = throws.IndexOutOfBoundsException
                run 2147483647 5 = throws.IndexOutOfBoundsException
                run -2147483648 5 = throws.IndexOutOfBoundsException
                run 2 0 = throws.IndexOutOfBoundsException       # though none would be handled
                queue 1 = 0@0(0,0,0)
                about 1 0 = 0
                sent = 1
                run 1 1 = 1
                run 0 1 = 1
                """);
        Script.play(expect, "first: no such node of seven", """
                begin 7
                run 7 5 = throws.IndexOutOfBoundsException
                run 6 5 = 0
                begin 6
                run 6 5 = throws.IndexOutOfBoundsException
                run 5 5 = 0
                """);
        Script.play(expect, "most is one too small, or the least", """
                begin 2
                edge 0 1 7 = 0
                wake 0 = true
                run 0 -1 = throws.IllegalArgumentException
                run 0 -2147483648 = throws.IllegalArgumentException
                run 0 0 = 0
                run 1 0 = 0
                queue 1 = 0@0(0,0,0)
                about 1 0 = 0
                left = 1
                sent = 1
                """);
        Script.play(expect, "most is one too large, or the most", """
                begin 2
                edge 0 1 7 = 0
                wake 0 = true
                run 0 1000 = throws.IllegalArgumentException
                run 0 2147483647 = throws.IllegalArgumentException
                queue 1 = 0@0(0,0,0)
                about 1 0 = 0
                sent = 1
                run 0 999 = 6
                left = 0
                """);
        Script.play(expect, "most is wrong, and there are no messages", """
                begin 1
                run 0 -1 = throws.IllegalArgumentException
                run 0 1000 = throws.IllegalArgumentException
                run 0 0 = 0
                run 0 999 = 0
                """);
        Script.play(expect, "where both exceptions fit", """
                begin 2
                edge 0 1 7 = 0
                wake 0 = true
                run 2 1000 = throws.IndexOutOfBoundsException
                run 2 -1 = throws.IndexOutOfBoundsException
                run -1 1000 = throws.IndexOutOfBoundsException
                run -1 -1 = throws.IndexOutOfBoundsException
                """);
        Script.play(expect, "one message less than there will be", """
                begin 2
                edge 0 1 7 = 0
                wake 0 = true
                run 0 5 = 5
                left = 1
                run 0 1 = 1
                left = 0
                """);
        Script.play(expect, "as many messages as there will be", """
                begin 2
                edge 0 1 7 = 0
                wake 0 = true
                run 0 6 = 6
                left = 0
                """);
        Script.play(expect, "one message more than there will be", """
                begin 2
                edge 0 1 7 = 0
                wake 0 = true
                run 0 7 = 6
                left = 0
                """);
        Script.play(expect, "no messages: nobody is woken", """
                begin 7
                edge 0 6 7 = 0
                run 0 999 = 0
                run 6 999 = 0
                about 0 0 = 0
                about 6 0 = 0
                edge 0 6 8 = 1
                """);
        Script.play(expect, "from the last node on to the first", """
                begin 3
                edge 0 1 1 = 0
                edge 1 2 2 = 1
                wake 1 = true        # to node 0
                wake 2 = true        # to node 1
                run 2 1 = 1          # node 2 has none, so node 0 does
                queue 0 = empty
                queue 1 = 0@1(0,0,0) 0@0(0,0,0) 1@0(1,1,1)
                """);
        Script.play(expect, "the round has as many nodes as this network", """
                begin 7
                edge 5 6 7 = 0
                wake 5 = true
                begin 2
                edge 0 1 7 = 0
                wake 1 = true        # to node 0
                run 1 1 = 1
                queue 0 = empty
                queue 1 = 0@0(0,0,0) 1@0(1,7,1)
                run 1 999 = 5
                """);
        Script.play(expect, "only the node before the first one has messages", """
                begin 7
                edge 0 2 7 = 0
                wake 0 = true        # to node 2
                run 3 1 = 1          # nodes 3 to 6, 0 and 1 have none
                queue 2 = empty
                queue 0 = 0@0(0,0,0) 1@0(1,7,1)
                """);
        Script.play(expect, "none, and until there are none", """
                begin 2
                edge 0 1 7 = 0
                run 0 999 = 0
                wake 0 = true
                run 0 0 = 0
                left = 1
                run 0 999 = 6
                run 0 999 = 0
                run 1 1 = 0
                left = 0
                about 0 9 = 1
                about 1 9 = 1
                """);
        Script.play(expect, "one message a turn, from the first node on", """
                begin 4
                edge 0 1 1 = 0
                edge 1 2 2 = 1
                edge 2 3 3 = 2
                wake 0 = true
                wake 1 = true
                wake 2 = true
                wake 3 = true
                queue 0 = 0@0(0,0,0)
                queue 1 = 0@0(0,0,0) 0@1(0,0,0)
                queue 2 = 0@2(0,0,0)
                queue 3 = empty
                run 2 1 = 1          # node 2 puts back
                queue 2 = 0@2(0,0,0)
                queue 0 = 0@0(0,0,0)
                run 3 1 = 1          # node 3 has none, so node 0 does
                queue 0 = empty
                queue 1 = 0@0(0,0,0) 0@1(0,0,0) 1@0(1,1,1)
                run 1 2 = 2          # nodes 1 and 2, each one
                queue 1 = 0@1(0,0,0) 1@0(1,1,1)
                queue 0 = 1@0(1,1,1)
                queue 2 = 0@2(0,0,0)
                run 1 4 = 4          # nodes 1, 2, 0, 1
                queue 1 = 0@1(0,0,0) 5@0(100,0,0)
                queue 0 = empty
                queue 2 = 0@2(0,0,0) 2@1(1,1,0)
                """);
        Script.play(expect, "a message that is put back counts as handled", """
                begin 3
                edge 0 1 1 = 0
                edge 1 2 2 = 1
                wake 2 = true
                run 1 1 = 1
                queue 1 = 0@1(0,0,0)
                queue 0 = 0@0(0,0,0)
                run 1 1 = 1
                queue 1 = 0@1(0,0,0)
                queue 0 = 0@0(0,0,0)
                sent = 2
                """);
        Script.play(expect, "what is sent to a later node in the round is handled in it", """
                begin 3
                edge 0 1 1 = 0
                edge 1 2 2 = 1
                wake 0 = true
                run 0 2 = 2          # node 1, and then node 0
                queue 0 = 1@0(1,1,1)
                queue 1 = 1@0(1,1,1)
                """);
        expect.finish();
    }
}
