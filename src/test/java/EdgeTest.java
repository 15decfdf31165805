/** Promise 3: edge. */
public final class EdgeTest {
    public static void main(String[] args) {
        Expect expect = new Expect();
        Script.play(expect, "numbers and ends", """
                begin 3
                edge 2 0 99 = 0
                edge 0 1 1 = 1
                edge 1 0 50 = 2      # two between the same nodes
                marks 0 = 0 0 0
                marks 1 = -1 0 0
                marks 2 = 0 -1 -1
                """);
        Script.play(expect, "no nodes at all", """
                edge 0 1 3 = throws.IndexOutOfBoundsException
                edge 0 0 0 = throws.IndexOutOfBoundsException
                """);
        Script.play(expect, "one: no such node", """
                begin 3
                edge -1 0 3 = throws.IndexOutOfBoundsException
                edge 3 0 3 = throws.IndexOutOfBoundsException
                edge 256 1 3 = throws.IndexOutOfBoundsException
                edge 2147483647 0 3 = throws.IndexOutOfBoundsException
                edge -2147483648 0 3 = throws.IndexOutOfBoundsException
                edge 0 1 3 = 0
                edge 2 1 4 = 1
                """);
        Script.play(expect, "two: no such node", """
                begin 3
                edge 0 -1 3 = throws.IndexOutOfBoundsException
                edge 0 3 3 = throws.IndexOutOfBoundsException
                edge 1 256 3 = throws.IndexOutOfBoundsException
                edge 0 2147483647 3 = throws.IndexOutOfBoundsException
                edge 0 -2147483648 3 = throws.IndexOutOfBoundsException
                edge 1 0 3 = 0
                edge 1 2 4 = 1
                """);
        Script.play(expect, "the first and the last of seven nodes", """
                begin 7
                edge 0 7 3 = throws.IndexOutOfBoundsException
                edge 7 0 3 = throws.IndexOutOfBoundsException
                edge 0 6 3 = 0
                edge 6 0 4 = 1
                marks 0 = 0 0
                marks 6 = 0 0
                marks 5 = -1 -1
                """);
        Script.play(expect, "nodes that the network before had", """
                begin 7
                edge 5 6 3 = 0
                begin 2
                edge 5 6 3 = throws.IndexOutOfBoundsException
                edge 0 2 3 = throws.IndexOutOfBoundsException
                """);
        Script.play(expect, "the nodes are the same", """
                begin 2
                edge 0 0 3 = throws.IllegalArgumentException
                edge 1 1 3 = throws.IllegalArgumentException
                edge 0 1 3 = 0       # the weight was not taken
                """);
        Script.play(expect, "one node can have no edge", """
                begin 1
                edge 0 0 3 = throws.IllegalArgumentException
                edge 0 1 3 = throws.IndexOutOfBoundsException
                edge 1 0 3 = throws.IndexOutOfBoundsException
                """);
        Script.play(expect, "a weight of 0 is too small, 1 is the least", """
                begin 2
                edge 0 1 0 = throws.IllegalArgumentException
                edge 0 1 1 = 0
                """);
        Script.play(expect, "a weight of 100 is too large, 99 is the most", """
                begin 2
                edge 0 1 100 = throws.IllegalArgumentException
                edge 0 1 99 = 0
                """);
        Script.play(expect, "weights far outside", """
                begin 2
                edge 0 1 -5 = throws.IllegalArgumentException
                edge 0 1 257 = throws.IllegalArgumentException
                edge 0 1 2147483647 = throws.IllegalArgumentException
                edge 0 1 -2147483648 = throws.IllegalArgumentException
                mark 0 0 = throws.IndexOutOfBoundsException
                """);
        Script.play(expect, "another edge has the weight, the first, a middle or the last one", """
                begin 4
                edge 0 1 7 = 0
                edge 0 1 1 = 1
                edge 0 1 99 = 2
                edge 1 0 7 = throws.IllegalArgumentException
                edge 2 3 1 = throws.IllegalArgumentException   # between other nodes too
                edge 0 1 99 = throws.IllegalArgumentException
                mark 0 3 = throws.IndexOutOfBoundsException
                edge 0 1 6 = 3       # one less, one more
                edge 0 1 8 = 4
                """);
        Script.play(expect, "where two or three exceptions fit, asleep", """
                begin 2
                edge 5 5 3 = throws.IndexOutOfBoundsException    # no such nodes, and the same
                edge -1 -1 3 = throws.IndexOutOfBoundsException
                edge 0 5 0 = throws.IndexOutOfBoundsException    # no such node, and the weight
                edge 5 0 100 = throws.IndexOutOfBoundsException
                edge 0 1 7 = 0
                edge 5 0 7 = throws.IndexOutOfBoundsException    # no such node, and another has it
                edge 0 5 7 = throws.IndexOutOfBoundsException
                edge 0 0 7 = throws.IllegalArgumentException
                """);
        Script.play(expect, "where two or three exceptions fit, awake", """
                begin 2
                edge 0 1 7 = 0
                wake 0 = true
                edge 0 5 3 = throws.IndexOutOfBoundsException
                edge 5 0 3 = throws.IndexOutOfBoundsException
                edge 5 5 0 = throws.IndexOutOfBoundsException    # all three
                edge 0 0 3 = throws.IllegalArgumentException
                edge 0 1 0 = throws.IllegalArgumentException
                edge 0 1 100 = throws.IllegalArgumentException
                edge 0 1 7 = throws.IllegalArgumentException
                edge 0 1 3 = throws.IllegalStateException
                """);
        Script.play(expect, "some node is awake: the first", """
                begin 3
                edge 1 2 7 = 0
                wake 0 = true
                edge 1 2 8 = throws.IllegalStateException
                """);
        Script.play(expect, "some node is awake: the last, and it has no edges", """
                begin 3
                edge 0 1 7 = 0
                wake 2 = true
                edge 0 1 8 = throws.IllegalStateException
                mark 0 1 = throws.IndexOutOfBoundsException
                begin 3              # asleep again
                edge 0 1 8 = 0
                """);
        Script.play(expect, "some node is awake: there is no edge yet", """
                begin 2
                wake 1 = true
                edge 0 1 8 = throws.IllegalStateException
                """);
        Script.play(expect, "some node is awake: each of seven", """
                begin 7
                wake 0 = true
                edge 3 4 8 = throws.IllegalStateException
                begin 7
                wake 1 = true
                edge 3 4 8 = throws.IllegalStateException
                begin 7
                wake 2 = true
                edge 3 4 8 = throws.IllegalStateException
                begin 7
                wake 3 = true
                edge 3 4 8 = throws.IllegalStateException
                begin 7
                wake 4 = true
                edge 3 4 8 = throws.IllegalStateException
                begin 7
                wake 5 = true
                edge 3 4 8 = throws.IllegalStateException
                begin 7
                wake 6 = true
                edge 3 4 8 = throws.IllegalStateException
                """);
        Script.play(expect, "all nodes are awake, and done", """
                begin 2
                edge 0 1 7 = 0
                wake 0 = true
                run 0 999 = 6
                left = 0
                edge 0 1 8 = throws.IllegalStateException
                """);
        Script.play(expect, "a handle that finds no message wakes nobody", """
                begin 2
                handle 0 = -1
                run 1 999 = 0
                edge 0 1 8 = 0
                """);
        Script.play(expect, "there are 12 edges, and some node is awake", """
                begin 2
                edge 0 1 1 = 0
                edge 0 1 2 = 1
                edge 0 1 3 = 2
                edge 0 1 4 = 3
                edge 0 1 5 = 4
                edge 0 1 6 = 5
                edge 0 1 7 = 6
                edge 0 1 8 = 7
                edge 0 1 9 = 8
                edge 0 1 10 = 9
                edge 0 1 11 = 10
                edge 0 1 12 = 11
                wake 1 = true
                edge 0 1 13 = throws.IllegalStateException
                edge 0 1 12 = throws.IllegalArgumentException
                edge 0 2 13 = throws.IndexOutOfBoundsException
                """);
        Script.play(expect, "the twelfth edge is the last", """
                begin 7
                edge 0 1 1 = 0
                edge 1 2 2 = 1
                edge 2 3 3 = 2
                edge 3 4 4 = 3
                edge 4 5 5 = 4
                edge 5 6 6 = 5
                edge 6 0 7 = 6
                edge 0 2 8 = 7
                edge 1 3 9 = 8
                edge 2 4 10 = 9
                edge 3 5 11 = 10
                edge 4 6 12 = 11
                edge 5 0 13 = throws.IllegalStateException
                edge 5 0 12 = throws.IllegalArgumentException
                edge 5 5 13 = throws.IllegalArgumentException
                edge 5 7 13 = throws.IndexOutOfBoundsException
                mark 0 11 = -1
                mark 4 11 = 0
                mark 6 11 = 0
                mark 0 12 = throws.IndexOutOfBoundsException
                begin 2
                edge 0 1 13 = 0
                """);
        expect.finish();
    }
}
