/** Promises 10, 11 and 12: sent, left and weight. */
public final class CountsTest {
    public static void main(String[] args) {
        Expect expect = new Expect();
        Script.play(expect, "sent counts what was sent, not what is put back or handled", """
                sent = 0
                begin 3
                sent = 0
                edge 0 1 1 = 0
                edge 1 2 2 = 1
                wake 2 = true
                sent = 1
                wake 2 = false
                sent = 1
                handle 1 = 0         # wakes: one more; put back: none
                sent = 2
                handle 1 = 0
                handle 1 = 0
                sent = 2
                handle 0 = 0         # wakes, and answers
                sent = 4
                run 0 999 = 16
                sent = 11
                begin 0 = throws.IllegalArgumentException
                sent = 11
                begin 3
                sent = 0
                """);
        Script.play(expect, "left counts the queues of all nodes", """
                left = 0
                begin 7
                edge 0 6 1 = 0
                edge 1 6 2 = 1
                edge 2 3 3 = 2
                wake 6 = true
                left = 1
                wake 0 = true
                left = 2
                wake 1 = true
                left = 3
                wake 3 = true
                left = 4
                wake 5 = true
                left = 4
                handle 6 = 0
                left = 4
                handle 5 = -1
                left = 4
                run 0 999 = 22
                left = 0
                begin 7
                left = 0
                """);
        Script.play(expect, "left is less when a message is handled without an answer", """
                begin 2
                edge 0 1 7 = 0
                wake 0 = true
                run 0 4 = 4
                left = 2
                handle 0 = 5
                left = 1
                handle 1 = 5
                left = 0
                """);
        Script.play(expect, "weight counts an edge when it is a BRANCH to both its nodes", """
                weight = 0
                begin 3
                weight = 0
                edge 0 1 7 = 0
                edge 1 2 20 = 1
                edge 2 0 90 = 2
                weight = 0
                wake 0 = true
                marks 0 = 1 -1 0
                weight = 0           # a BRANCH to node 0 alone
                wake 2 = true
                weight = 0
                wake 1 = true
                weight = 7
                run 1 999 = 20
                weight = 27
                begin 3
                weight = 0
                """);
        expect.finish();
    }
}
