/** Promise 6: run. */
public final class RunTest {
    public static void main(String[] args) {
        Expect expect = new Expect();
        Script.play(expect, "wrong arguments", """
                begin 2
                edge 0 1 7 = 0
                wake 0 = true
                run 2 5 = throws.IndexOutOfBoundsException
                run -1 5 = throws.IndexOutOfBoundsException
                run 2147483647 5 = throws.IndexOutOfBoundsException
                run -2147483648 5 = throws.IndexOutOfBoundsException
                run 0 -1 = throws.IllegalArgumentException
                run 0 1000 = throws.IllegalArgumentException
                run 0 2147483647 = throws.IllegalArgumentException
                run 0 -2147483648 = throws.IllegalArgumentException
                run 2 1000 = throws.IndexOutOfBoundsException
                queue 1 = 0@0(0,0,0)
                about 1 0 = 0
                sent = 1
                """);
        Script.play(expect, "none, and until there are none", """
                begin 2
                edge 0 1 7 = 0
                run 0 999 = 0
                wake 0 = true
                run 0 0 = 0
                left = 1
                run 0 999 = 6
                run 0 999 = 0
                run 1 1 = 0
                left = 0
                about 0 9 = 1
                about 1 9 = 1
                """);
        Script.play(expect, "one message a turn, from the first node on", """
                begin 4
                edge 0 1 1 = 0
                edge 1 2 2 = 1
                edge 2 3 3 = 2
                wake 0 = true
                wake 1 = true
                wake 2 = true
                wake 3 = true
                queue 0 = 0@0(0,0,0)
                queue 1 = 0@0(0,0,0) 0@1(0,0,0)
                queue 2 = 0@2(0,0,0)
                queue 3 = empty
                run 2 1 = 1          # node 2 puts back
                queue 2 = 0@2(0,0,0)
                queue 0 = 0@0(0,0,0)
                run 3 1 = 1          # node 3 has none, so node 0 does
                queue 0 = empty
                queue 1 = 0@0(0,0,0) 0@1(0,0,0) 1@0(1,1,1)
                run 1 2 = 2          # nodes 1 and 2, each one
                queue 1 = 0@1(0,0,0) 1@0(1,1,1)
                queue 0 = 1@0(1,1,1)
                queue 2 = 0@2(0,0,0)
                run 1 4 = 4          # nodes 1, 2, 0, 1
                queue 1 = 0@1(0,0,0) 5@0(100,0,0)
                queue 0 = empty
                queue 2 = 0@2(0,0,0) 2@1(1,1,0)
                """);
        Script.play(expect, "a message that is put back counts as handled", """
                begin 3
                edge 0 1 1 = 0
                edge 1 2 2 = 1
                wake 2 = true
                run 1 1 = 1
                queue 1 = 0@1(0,0,0)
                queue 0 = 0@0(0,0,0)
                run 1 1 = 1
                queue 1 = 0@1(0,0,0)
                queue 0 = 0@0(0,0,0)
                sent = 2
                """);
        Script.play(expect, "what is sent to a later node in the round is handled in it", """
                begin 3
                edge 0 1 1 = 0
                edge 1 2 2 = 1
                wake 0 = true
                run 0 2 = 2          # node 1, and then node 0
                queue 0 = 1@0(1,1,1)
                queue 1 = 1@0(1,1,1)
                """);
        expect.finish();
    }
}
