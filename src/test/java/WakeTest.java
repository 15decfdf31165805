/** Promise 4: wake. */
public final class WakeTest {
    public static void main(String[] args) {
        Expect expect = new Expect();
        Script.play(expect, "a node without edges", """
                begin 1
                wake 0 = true
                node 0 = 2 0 0 0 -1 -1 -1 100 0 0
                sent = 0
                wake 0 = false
                """);
        Script.play(expect, "over the edge of least weight", """
                begin 4
                edge 0 1 9 = 0
                edge 2 0 4 = 1
                edge 0 3 6 = 2
                edge 1 3 1 = 3
                wake 0 = true
                node 0 = 2 0 0 0 -1 -1 -1 100 0 0
                marks 0 = 0 1 0 -1
                marks 2 = -1 0 -1 -1
                queue 2 = 0@1(0,0,0)
                about 2 0 = 0        # a message alone does not wake
                left = 1
                sent = 1
                wake 0 = false
                sent = 1
                wake 3 = true
                marks 3 = -1 -1 0 1
                queue 1 = 0@3(0,0,0)
                wake 2 = true
                queue 0 = 0@1(0,0,0)
                queue 2 = 0@1(0,0,0)
                sent = 3
                """);
        Script.play(expect, "woken by a message", """
                begin 2
                edge 0 1 7 = 0
                wake 0 = true
                handle 1 = 0
                wake 1 = false
                sent = 3
                """);
        Script.play(expect, "false when it is awake, in FOUND and in FIND", """
                begin 3
                edge 0 1 7 = 0
                edge 1 2 8 = 1
                wake 1 = true
                node 1 = 2 0 0 0 -1 -1 -1 100 0 0
                wake 1 = false
                node 1 = 2 0 0 0 -1 -1 -1 100 0 0
                handle 0 = 0
                handle 1 = 0
                handle 1 = 1
                node 1 = 1 1 7 0 0 -1 1 100 0 0
                wake 1 = false
                node 1 = 1 1 7 0 0 -1 1 100 0 0
                sent = 5             # nothing more
                left = 2
                """);
        Script.play(expect, "false when a TEST has woken it", """
                begin 3
                edge 0 1 7 = 0
                edge 1 2 8 = 1
                wake 0 = true
                handle 1 = 0
                handle 0 = 0
                handle 1 = 1
                queue 2 = 2@1(1,7,0)
                about 2 0 = 0
                handle 2 = 2
                about 2 0 = 2
                wake 2 = false
                """);
        Script.play(expect, "true with a message in its queue", """
                begin 2
                edge 0 1 7 = 0
                wake 0 = true
                about 1 8 = 1
                wake 1 = true
                queue 0 = 0@0(0,0,0)
                queue 1 = 0@0(0,0,0)
                """);
        Script.play(expect, "each of seven nodes without edges", """
                begin 7
                wake 0 = true
                wake 1 = true
                wake 2 = true
                wake 3 = true
                wake 4 = true
                wake 5 = true
                wake 6 = true
                wake 6 = false
                wake 0 = false
                sent = 0
                left = 0
                """);
        Script.play(expect, "the lightest is the first of twelve edges", """
                begin 2
                edge 0 1 1 = 0
                edge 0 1 2 = 1
                edge 0 1 3 = 2
                edge 0 1 4 = 3
                edge 0 1 5 = 4
                edge 0 1 6 = 5
                edge 0 1 7 = 6
                edge 0 1 8 = 7
                edge 0 1 9 = 8
                edge 0 1 10 = 9
                edge 0 1 11 = 10
                edge 0 1 99 = 11
                wake 1 = true
                marks 1 = 1 0 0 0 0 0 0 0 0 0 0 0
                queue 0 = 0@0(0,0,0)
                """);
        Script.play(expect, "the lightest is the last of twelve edges", """
                begin 2
                edge 0 1 99 = 0
                edge 0 1 98 = 1
                edge 0 1 97 = 2
                edge 0 1 96 = 3
                edge 0 1 95 = 4
                edge 0 1 94 = 5
                edge 0 1 93 = 6
                edge 0 1 92 = 7
                edge 0 1 91 = 8
                edge 0 1 90 = 9
                edge 0 1 89 = 10
                edge 0 1 88 = 11
                wake 1 = true
                marks 1 = 0 0 0 0 0 0 0 0 0 0 0 1
                queue 0 = 0@11(0,0,0)
                """);
        Script.play(expect, "its one edge has the greatest weight", """
                begin 2
                edge 0 1 99 = 0
                wake 0 = true
                marks 0 = 1
                queue 1 = 0@0(0,0,0)
                """);
        Script.play(expect, "no nodes at all", """
                wake 0 = throws.IndexOutOfBoundsException
                """);
        Script.play(expect, "no such node", """
                begin 2
                edge 0 1 7 = 0
                wake 2 = throws.IndexOutOfBoundsException
                wake -1 = throws.IndexOutOfBoundsException
                wake 256 = throws.IndexOutOfBoundsException
                wake 2147483647 = throws.IndexOutOfBoundsException
                wake -2147483648 = throws.IndexOutOfBoundsException
                sent = 0
                about 0 0 = 0
                about 1 0 = 0
                wake 1 = true
                wake 0 = true
                wake 2 = throws.IndexOutOfBoundsException
                """);
        Script.play(expect, "no such node of seven", """
                begin 7
                wake 7 = throws.IndexOutOfBoundsException
                wake 6 = true
                begin 6
                wake 6 = throws.IndexOutOfBoundsException
                wake 5 = true
                """);
        expect.finish();
    }
}
