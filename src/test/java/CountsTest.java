/** Promises 10, 11 and 12: sent, left and weight. */
public final class CountsTest {
    public static void main(String[] args) {
        Expect expect = new Expect();
        Script.play(expect, "sent counts what was sent, not what is put back or handled", """
                sent = 0
                begin 3
                sent = 0
                edge 0 1 1 = 0
                edge 1 2 2 = 1
                wake 2 = true
                sent = 1
                wake 2 = false
                sent = 1
                handle 1 = 0         # wakes: one more; put back: none
                sent = 2
                handle 1 = 0
                handle 1 = 0
                sent = 2
                handle 0 = 0         # wakes, and answers
                sent = 4
                run 0 999 = 16
                sent = 11
                begin 0 = throws.IllegalArgumentException
                sent = 11
                begin 3
                sent = 0
                """);
        Script.play(expect, "no nodes, one node, no edges: nothing is sent, left or weighs", """
                sent = 0
                left = 0
                weight = 0
                begin 1
                wake 0 = true
                sent = 0
                left = 0
                weight = 0
                begin 7
                wake 0 = true
                wake 6 = true
                run 0 999 = 0
                sent = 0
                left = 0
                weight = 0
                """);
        Script.play(expect, "calls that throw or find nothing to do count nothing", """
                begin 2
                edge 0 1 7 = 0
                sent = 0
                handle 0 = -1
                run 0 0 = 0
                wake 0 = true
                wake 0 = false
                wake 2 = throws.IndexOutOfBoundsException
                handle 0 = -1
                handle 2 = throws.IndexOutOfBoundsException
                run 0 0 = 0
                run 0 1000 = throws.IllegalArgumentException
                edge 0 1 8 = throws.IllegalStateException
                sent = 1
                left = 1
                weight = 0
                """);
        Script.play(expect, "left counts the queue of the last of seven nodes, of the first too", """
                begin 7
                edge 5 6 1 = 0
                edge 1 0 2 = 1
                wake 5 = true
                left = 1
                wake 1 = true
                left = 2
                handle 6 = 0         # wakes, and answers: two more, one less
                left = 3
                begin 6              # without the node that has them
                left = 0
                """);
        Script.play(expect, "left counts the queues of all nodes", """
                left = 0
                begin 7
                edge 0 6 1 = 0
                edge 1 6 2 = 1
                edge 2 3 3 = 2
                wake 6 = true
                left = 1
                wake 0 = true
                left = 2
                wake 1 = true
                left = 3
                wake 3 = true
                left = 4
                wake 5 = true
                left = 4
                handle 6 = 0
                left = 4
                handle 5 = -1
                left = 4
                run 0 999 = 22
                left = 0
                begin 7
                left = 0
                """);
        Script.play(expect, "left is less when a message is handled without an answer", """
                begin 2
                edge 0 1 7 = 0
                wake 0 = true
                run 0 4 = 4
                left = 2
                handle 0 = 5
                left = 1
                handle 1 = 5
                left = 0
                """);
        Script.play(expect, "weight counts an edge when it is a BRANCH to both its nodes", """
                weight = 0
                begin 3
                weight = 0
                edge 0 1 7 = 0
                edge 1 2 20 = 1
                edge 2 0 90 = 2
                weight = 0
                wake 0 = true
                marks 0 = 1 -1 0
                weight = 0           # a BRANCH to node 0 alone
                wake 2 = true
                weight = 0
                wake 1 = true
                weight = 7
                run 1 999 = 20
                weight = 27
                begin 3
                weight = 0
                """);
        Script.play(expect, "weight counts no edge that is a BRANCH to its second node alone", """
                begin 2
                edge 0 1 7 = 0
                wake 1 = true
                marks 1 = 1
                marks 0 = 0
                weight = 0
                wake 0 = true
                weight = 7
                """);
        Script.play(expect, "weight counts no edge that both nodes have rejected", """
                begin 2
                edge 0 1 8 = 0
                edge 0 1 7 = 1
                wake 0 = true
                run 0 999 = 8
                marks 0 = 2 1
                marks 1 = 2 1
                weight = 7
                """);
        Script.play(expect, "the heaviest tree: 94 + 95 + 96 + 97 + 98 + 99", """
                begin 7
                edge 0 1 94 = 0
                edge 1 2 95 = 1
                edge 2 3 96 = 2
                edge 3 4 97 = 3
                edge 4 5 98 = 4
                edge 5 6 99 = 5
                wake 3 = true
                run 3 999 = 71
                left = 0
                weight = 579
                """);
        Script.play(expect, "the lightest tree: one edge of weight 1, the last of twelve", """
                begin 2
                edge 0 1 12 = 0
                edge 0 1 11 = 1
                edge 0 1 10 = 2
                edge 0 1 9 = 3
                edge 0 1 8 = 4
                edge 0 1 7 = 5
                edge 0 1 6 = 6
                edge 0 1 5 = 7
                edge 0 1 4 = 8
                edge 0 1 3 = 9
                edge 0 1 2 = 10
                edge 0 1 1 = 11
                wake 0 = true
                wake 1 = true
                weight = 1
                run 0 999 = 28
                weight = 1
                """);
        expect.finish();
    }
}
