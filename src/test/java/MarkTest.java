/** Promise 8: mark. */
public final class MarkTest {
    public static void main(String[] args) {
        Expect expect = new Expect();
        Script.play(expect, "wrong arguments", """
                begin 2
                mark 0 0 = throws.IndexOutOfBoundsException
                edge 0 1 7 = 0
                mark 0 0 = 0
                mark 2 0 = throws.IndexOutOfBoundsException
                mark -1 0 = throws.IndexOutOfBoundsException
                mark 2147483647 0 = throws.IndexOutOfBoundsException
                mark -2147483648 0 = throws.IndexOutOfBoundsException
                mark 0 1 = throws.IndexOutOfBoundsException
                mark 0 -1 = throws.IndexOutOfBoundsException
                mark 0 11 = throws.IndexOutOfBoundsException
                mark 0 12 = throws.IndexOutOfBoundsException
                mark 0 2147483647 = throws.IndexOutOfBoundsException
                mark 0 -2147483648 = throws.IndexOutOfBoundsException
                """);
        Script.play(expect, "each end for itself", """
                begin 3
                edge 0 1 7 = 0
                edge 1 2 8 = 1
                edge 2 0 9 = 2
                mark 0 0 = 0
                mark 1 0 = 0
                mark 2 0 = -1
                mark 0 1 = -1
                wake 0 = true
                mark 0 0 = 1
                mark 1 0 = 0
                mark 0 2 = 0
                run 0 999 = 19
                marks 0 = 1 -1 2
                marks 1 = 1 1 -1
                marks 2 = -1 1 2
                """);
        expect.finish();
    }
}
