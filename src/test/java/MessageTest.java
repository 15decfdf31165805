/** Promise 9: message. */
public final class MessageTest {
    public static void main(String[] args) {
        Expect expect = new Expect();
        Script.play(expect, "no nodes at all", """
                message 0 0 0 = throws.IndexOutOfBoundsException
                message 0 0 5 = throws.IndexOutOfBoundsException
                """);
        Script.play(expect, "no such node", """
                begin 2
                edge 0 1 7 = 0
                wake 0 = true
                wake 1 = true
                message 2 0 0 = throws.IndexOutOfBoundsException
                message -1 0 0 = throws.IndexOutOfBoundsException
                message 256 0 0 = throws.IndexOutOfBoundsException
                message 2147483647 0 0 = throws.IndexOutOfBoundsException
                message -2147483648 0 0 = throws.IndexOutOfBoundsException
                message 0 0 0 = 0
                message 1 0 0 = 0
                """);
        Script.play(expect, "no such node of seven", """
                begin 7
                edge 5 6 7 = 0
                wake 5 = true
                message 7 0 0 = throws.IndexOutOfBoundsException
                message 6 0 0 = 0
                begin 6
                edge 4 5 7 = 0
                wake 4 = true
                message 6 0 0 = throws.IndexOutOfBoundsException
                message 5 0 0 = 0
                """);
        Script.play(expect, "no such message in an empty queue", """
                begin 2
                edge 0 1 7 = 0
                message 0 0 0 = throws.IndexOutOfBoundsException
                wake 0 = true
                message 0 0 0 = throws.IndexOutOfBoundsException
                message 0 -1 0 = throws.IndexOutOfBoundsException
                message 1 0 0 = 0
                handle 1 = 0         # its only message
                message 1 0 0 = throws.IndexOutOfBoundsException
                begin 2
                message 0 0 0 = throws.IndexOutOfBoundsException
                message 1 0 0 = throws.IndexOutOfBoundsException
                """);
        Script.play(expect, "no such message beside one", """
                begin 2
                edge 0 1 7 = 0
                wake 0 = true
                message 1 -1 0 = throws.IndexOutOfBoundsException
                message 1 1 0 = throws.IndexOutOfBoundsException
                message 1 256 0 = throws.IndexOutOfBoundsException
                message 1 2147483647 0 = throws.IndexOutOfBoundsException
                message 1 -2147483648 0 = throws.IndexOutOfBoundsException
                message 1 0 0 = 0
                left = 1
                """);
        Script.play(expect, "the first and the last of six messages", """
                begin 7
                edge 0 1 1 = 0
                edge 0 2 2 = 1
                edge 0 3 3 = 2
                edge 0 4 4 = 3
                edge 0 5 5 = 4
                edge 0 6 6 = 5
                wake 6 = true
                wake 5 = true
                wake 4 = true
                wake 3 = true
                wake 2 = true
                wake 1 = true
                message 0 -1 1 = throws.IndexOutOfBoundsException
                message 0 0 1 = 5
                message 0 5 1 = 0
                message 0 6 1 = throws.IndexOutOfBoundsException
                """);
        Script.play(expect, "what is one too small, or the least", """
                begin 2
                edge 0 1 7 = 0
                wake 1 = true
                handle 0 = 0
                message 1 1 -1 = throws.IllegalArgumentException
                message 1 1 -2147483648 = throws.IllegalArgumentException
                message 1 1 0 = 1
                """);
        Script.play(expect, "what is one too large, or the most", """
                begin 2
                edge 0 1 7 = 0
                wake 1 = true
                handle 0 = 0
                message 1 1 5 = throws.IllegalArgumentException
                message 1 1 256 = throws.IllegalArgumentException
                message 1 1 2147483647 = throws.IllegalArgumentException
                message 1 1 4 = 1
                """);
        Script.play(expect, "where both exceptions fit", """
                begin 2
                edge 0 1 7 = 0
                wake 0 = true
                message 2 0 5 = throws.IndexOutOfBoundsException    # no such node
                message -1 0 -1 = throws.IndexOutOfBoundsException
                message 1 1 5 = throws.IndexOutOfBoundsException    # no such message
                message 1 -1 -1 = throws.IndexOutOfBoundsException
                message 0 0 5 = throws.IndexOutOfBoundsException
                message 2 1 5 = throws.IndexOutOfBoundsException    # neither
                """);
        Script.play(expect, "which, the edge and the numbers", """
                begin 4
                edge 0 1 9 = 0
                edge 2 3 1 = 1
                edge 1 2 8 = 2
                edge 0 1 4 = 3
                wake 0 = true
                handle 1 = 0
                message 0 0 0 = 0    # CONNECT 0
                message 0 0 1 = 3
                message 0 0 2 = 0
                message 0 0 3 = 0
                message 0 0 4 = 0
                message 0 1 0 = 1    # INITIATE 1 4 FIND
                message 0 1 1 = 3
                message 0 1 2 = 1
                message 0 1 3 = 4
                message 0 1 4 = 1
                message 0 2 0 = throws.IndexOutOfBoundsException
                handle 0 = 0
                message 0 0 0 = 1
                message 0 1 0 = throws.IndexOutOfBoundsException
                handle 1 = 1
                message 2 0 0 = 2    # TEST 1 4
                message 2 0 1 = 2
                message 2 0 2 = 1
                message 2 0 3 = 4
                message 2 0 4 = 0
                handle 0 = 1         # tests edge 0
                handle 1 = 2
                message 0 0 0 = 4    # REJECT
                message 0 0 1 = 0
                message 0 0 2 = 0
                message 0 0 3 = 0
                message 0 0 4 = 0
                handle 0 = 4
                message 1 0 0 = 5    # REPORT 100
                message 1 0 1 = 3
                message 1 0 2 = 100
                message 1 0 3 = 0
                message 1 0 4 = 0
                """);
        expect.finish();
    }
}
