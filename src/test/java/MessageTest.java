/** Promise 9: message. */
public final class MessageTest {
    public static void main(String[] args) {
        Expect expect = new Expect();
        Script.play(expect, "wrong arguments", """
                begin 2
                edge 0 1 7 = 0
                message 0 0 0 = throws.IndexOutOfBoundsException
                wake 0 = true
                message 1 0 0 = 0
                message 2 0 0 = throws.IndexOutOfBoundsException
                message -1 0 0 = throws.IndexOutOfBoundsException
                message 2147483647 0 0 = throws.IndexOutOfBoundsException
                message -2147483648 0 0 = throws.IndexOutOfBoundsException
                message 1 1 0 = throws.IndexOutOfBoundsException
                message 1 -1 0 = throws.IndexOutOfBoundsException
                message 1 2147483647 0 = throws.IndexOutOfBoundsException
                message 1 -2147483648 0 = throws.IndexOutOfBoundsException
                message 1 0 5 = throws.IllegalArgumentException
                message 1 0 -1 = throws.IllegalArgumentException
                message 1 0 2147483647 = throws.IllegalArgumentException
                message 1 0 -2147483648 = throws.IllegalArgumentException
                message 2 0 5 = throws.IndexOutOfBoundsException
                message 1 1 5 = throws.IndexOutOfBoundsException
                left = 1
                """);
        Script.play(expect, "which, the edge and the numbers", """
                begin 4
                edge 0 1 9 = 0
                edge 2 3 1 = 1
                edge 1 2 8 = 2
                edge 0 1 4 = 3
                wake 0 = true
                handle 1 = 0
                message 0 0 0 = 0    # CONNECT 0
                message 0 0 1 = 3
                message 0 0 2 = 0
                message 0 0 3 = 0
                message 0 0 4 = 0
                message 0 1 0 = 1    # INITIATE 1 4 FIND
                message 0 1 1 = 3
                message 0 1 2 = 1
                message 0 1 3 = 4
                message 0 1 4 = 1
                message 0 2 0 = throws.IndexOutOfBoundsException
                handle 0 = 0
                message 0 0 0 = 1
                message 0 1 0 = throws.IndexOutOfBoundsException
                handle 1 = 1
                message 2 0 0 = 2    # TEST 1 4
                message 2 0 1 = 2
                message 2 0 2 = 1
                message 2 0 3 = 4
                message 2 0 4 = 0
                handle 0 = 1         # tests edge 0
                handle 1 = 2
                message 0 0 0 = 4    # REJECT
                message 0 0 1 = 0
                message 0 0 2 = 0
                message 0 0 3 = 0
                message 0 0 4 = 0
                handle 0 = 4
                message 1 0 0 = 5    # REPORT 100
                message 1 0 1 = 3
                message 1 0 2 = 100
                message 1 0 3 = 0
                message 1 0 4 = 0
                """);
        expect.finish();
    }
}
