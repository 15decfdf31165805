/** Promise 5: handle, a run for each way that the handling of a message can go. */
public final class HandleTest {
    public static void main(String[] args) {
        Expect expect = new Expect();
        Script.play(expect, "NONE when its queue is empty", """
                begin 2
                edge 0 1 7 = 0
                handle 0 = -1        # asleep, and it stays so
                node 0 = 0 0 0 0 -1 -1 -1 100 0 0
                wake 0 = true
                handle 0 = -1        # awake
                node 0 = 2 0 0 0 -1 -1 -1 100 0 0
                left = 1             # the message of the other node is still there
                sent = 1
                handle 1 = 0
                handle 1 = -1        # its only message is gone
                run 0 999 = 5
                handle 0 = -1        # done
                handle 1 = -1
                node 0 = 2 1 7 0 0 -1 -1 100 0 1
                """);
        Script.play(expect, "a node without edges has no messages", """
                begin 1
                handle 0 = -1
                about 0 0 = 0
                wake 0 = true
                handle 0 = -1
                node 0 = 2 0 0 0 -1 -1 -1 100 0 0
                """);
        Script.play(expect, "no nodes at all", """
                handle 0 = throws.IndexOutOfBoundsException
                """);
        Script.play(expect, "no such node", """
                begin 2
                edge 0 1 7 = 0
                wake 0 = true
                wake 1 = true
                handle 2 = throws.IndexOutOfBoundsException
                handle -1 = throws.IndexOutOfBoundsException
                handle 256 = throws.IndexOutOfBoundsException
                handle 2147483647 = throws.IndexOutOfBoundsException
                handle -2147483648 = throws.IndexOutOfBoundsException
                left = 2
                handle 1 = 0
                handle 0 = 0
                """);
        Script.play(expect, "no such node of seven", """
                begin 7
                handle 7 = throws.IndexOutOfBoundsException
                handle 6 = -1
                begin 6
                handle 6 = throws.IndexOutOfBoundsException
                handle 5 = -1
                """);
        Script.play(expect, "two nodes join over their one edge", """
                begin 2
                edge 0 1 7 = 0
                wake 0 = true
                handle 1 = 0
                node 1 = 2 0 0 0 -1 -1 -1 100 0 0
                marks 1 = 1
                queue 0 = 0@0(0,0,0) 1@0(1,7,1)
                handle 1 = -1
                handle 0 = 0
                queue 1 = 1@0(1,7,1)
                handle 0 = 1
                node 0 = 2 1 7 0 0 -1 -1 100 0 0
                queue 1 = 1@0(1,7,1) 5@0(100,0,0)
                handle 1 = 1
                queue 0 = 5@0(100,0,0)
                handle 1 = 5
                node 1 = 2 1 7 0 0 -1 -1 100 0 1
                node 0 = 2 1 7 0 0 -1 -1 100 1 0
                handle 0 = 5
                node 0 = 2 1 7 0 0 -1 -1 100 0 1
                sent = 6
                weight = 7
                """);
        Script.play(expect, "CONNECT over a BASIC edge waits, a lower level is taken in", """
                begin 3
                edge 0 1 1 = 0
                edge 1 2 2 = 1
                wake 2 = true
                handle 1 = 0         # wakes, and puts back
                marks 1 = 1 0
                queue 1 = 0@1(0,0,0)
                queue 0 = 0@0(0,0,0)
                sent = 2
                handle 1 = 0         # puts back again
                queue 1 = 0@1(0,0,0)
                sent = 2
                handle 0 = 0
                queue 1 = 0@1(0,0,0) 0@0(0,0,0) 1@0(1,1,1)
                handle 1 = 0         # behind the others
                queue 1 = 0@0(0,0,0) 1@0(1,1,1) 0@1(0,0,0)
                handle 1 = 0
                queue 0 = 1@0(1,1,1)
                handle 1 = 1
                node 1 = 1 1 1 0 0 -1 1 100 1 0
                queue 2 = 2@1(1,1,0)
                handle 1 = 0         # a lower level, in FIND
                node 1 = 1 1 1 1 0 -1 1 100 0 0
                marks 1 = 1 1
                queue 2 = 2@1(1,1,0) 1@1(1,1,1)
                handle 2 = 2         # TEST of a higher level is put back
                queue 2 = 1@1(1,1,1) 2@1(1,1,0)
                about 2 1 = 0
                sent = 7
                handle 2 = 1
                node 2 = 2 1 1 0 1 -1 -1 100 1 0
                queue 1 = 5@1(100,0,0)
                handle 2 = 2         # TEST over a BRANCH within the fragment
                marks 2 = -1 1
                queue 1 = 5@1(100,0,0) 4@1(0,0,0)
                handle 1 = 5         # still tests: no report yet
                node 1 = 1 1 1 0 0 -1 1 100 1 0
                handle 1 = 4         # REJECT over a BRANCH leaves it one
                marks 1 = 1 1
                node 1 = 2 1 1 0 0 -1 -1 100 0 0
                queue 0 = 1@0(1,1,1) 5@0(100,0,0)
                handle 0 = 1
                handle 0 = 5
                about 0 9 = 1
                handle 1 = 5
                about 1 9 = 1
                about 2 9 = 0
                left = 0
                weight = 3
                """);
        Script.play(expect, "CONNECT of a lower level to a node in FOUND", """
                begin 4
                edge 0 1 1 = 0
                edge 1 2 2 = 1
                edge 2 3 3 = 2
                edge 0 3 4 = 3
                wake 0 = true
                handle 1 = 0
                handle 0 = 0
                handle 0 = 1         # level 1, tests edge 3
                handle 1 = 1         # level 1, tests edge 1
                wake 2 = true        # CONNECT 0 over edge 1
                handle 2 = 2         # put back
                handle 3 = 2         # wakes: CONNECT 0 over edge 2; put back
                handle 1 = 0         # takes node 2 in, in FIND
                node 1 = 1 1 1 1 0 -1 1 100 0 0
                queue 2 = 2@1(1,1,0) 0@2(0,0,0) 1@1(1,1,1)
                handle 2 = 2         # put back: node 2 is of level 0
                handle 2 = 0         # put back: edge 2 is BASIC
                queue 2 = 1@1(1,1,1) 2@1(1,1,0) 0@2(0,0,0)
                handle 2 = 1         # tests edge 2
                node 2 = 1 1 1 0 1 -1 2 100 2 0
                handle 2 = 2         # REJECT over edge 1
                handle 2 = 0         # takes node 3 in, in FIND
                node 2 = 1 1 1 1 1 -1 2 100 0 0
                queue 3 = 2@3(1,1,0) 2@2(1,1,0) 1@2(1,1,1)
                """);
        Script.play(expect, "ACCEPT, REPORT and the core that connects", """
                begin 4
                edge 0 1 1 = 0
                edge 1 2 5 = 1
                edge 2 3 2 = 2
                wake 0 = true
                wake 1 = true
                wake 2 = true
                wake 3 = true
                handle 0 = 0
                handle 1 = 0
                handle 2 = 0
                handle 3 = 0
                handle 1 = 1         # tests edge 1
                node 1 = 1 1 1 0 0 -1 1 100 0 0
                queue 2 = 1@2(1,2,1) 2@1(1,1,0)
                handle 2 = 1         # tests edge 1
                node 2 = 1 1 2 0 2 -1 1 100 1 0
                handle 2 = 2         # another fragment
                queue 1 = 2@1(1,2,0) 3@1(0,0,0)
                marks 2 = -1 0 1
                handle 0 = 1         # reports before node 1 has found
                queue 1 = 2@1(1,2,0) 3@1(0,0,0) 5@0(100,0,0)
                handle 1 = 2
                queue 2 = 3@1(0,0,0)
                handle 1 = 3
                node 1 = 2 1 1 0 0 1 -1 5 1 0
                queue 0 = 5@0(5,0,0)
                handle 0 = 5         # less than its own: nothing
                node 0 = 2 1 1 0 0 -1 -1 100 0 0
                marks 1 = 1 0 -1
                handle 1 = 5         # CONNECT 1 over edge 1
                marks 1 = 1 1 -1
                node 1 = 2 1 1 0 0 1 -1 5 0 0
                queue 2 = 3@1(0,0,0) 0@1(1,0,0)
                sent = 15
                handle 2 = 3
                queue 3 = 1@2(1,2,1) 5@2(5,0,0)
                handle 2 = 0         # the same level, BASIC: put back
                marks 2 = -1 0 1
                queue 2 = 0@1(1,0,0)
                handle 3 = 1
                handle 2 = 0
                handle 2 = 5         # CONNECT 1 over edge 1
                queue 1 = 0@1(1,0,0)
                handle 1 = 0         # a core of level 2
                queue 2 = 0@1(1,0,0) 1@1(2,5,1)
                handle 2 = 0
                queue 1 = 1@1(2,5,1)
                handle 1 = 1         # over its other BRANCH, and waits
                node 1 = 1 2 5 1 1 -1 -1 100 0 0
                queue 0 = 1@0(2,5,1)
                handle 0 = 1
                handle 1 = 5
                node 1 = 2 2 5 0 1 -1 -1 100 0 0
                queue 2 = 1@1(2,5,1) 5@1(100,0,0)
                handle 2 = 1
                handle 2 = 5         # in FIND: put back
                node 2 = 1 2 5 1 1 -1 -1 100 1 0
                queue 2 = 5@1(100,0,0)
                about 2 9 = 0
                handle 3 = 5         # of the level before
                handle 3 = 1
                run 0 99 = 4
                about 1 9 = 1
                about 2 9 = 1
                weight = 8
                """);
        Script.play(expect, "CORE goes along the branches", """
                begin 5
                edge 0 1 1 = 0
                edge 1 2 2 = 1
                edge 2 3 9 = 2
                edge 3 4 3 = 3
                wake 2 = true
                wake 0 = true
                handle 1 = 0         # wakes; edge 1 is BASIC
                handle 0 = 0
                handle 1 = 0         # INITIATE to node 0
                handle 1 = 0         # edge 1 is BASIC
                handle 1 = 1
                handle 1 = 0         # takes node 2 in
                handle 2 = 2         # put back
                handle 2 = 1         # tests edge 2
                queue 3 = 2@2(1,1,0)
                handle 3 = 2         # wakes, puts back
                handle 4 = 0
                handle 3 = 2
                handle 3 = 0
                handle 3 = 1         # level 1, tests edge 2
                handle 3 = 2         # another fragment
                handle 2 = 2
                handle 2 = 2
                handle 2 = 3
                node 2 = 2 1 1 0 1 2 -1 9 0 0
                queue 1 = 4@1(0,0,0) 5@1(9,0,0)
                handle 1 = 4
                node 1 = 1 1 1 1 0 -1 -1 100 1 0
                handle 1 = 5         # BEST by an answer
                node 1 = 2 1 1 0 0 1 -1 9 0 0
                queue 0 = 1@0(1,1,1) 5@0(9,0,0)
                handle 0 = 1
                handle 0 = 5
                handle 1 = 5         # the other side has none: CORE towards BEST
                node 1 = 2 1 1 0 0 1 -1 9 0 0
                queue 2 = 6@1(0,0,0)
                marks 2 = -1 1 0 -1
                handle 2 = 6         # BEST is no BRANCH yet: CONNECT
                node 2 = 2 1 1 0 1 2 -1 9 0 0
                marks 2 = -1 1 1 -1
                queue 3 = 3@2(0,0,0) 0@2(1,0,0)
                """);
        Script.play(expect, "CORE goes on as CORE while BEST is a BRANCH", """
                begin 6
                edge 0 1 1 = 0
                edge 1 2 2 = 1
                edge 2 3 3 = 2
                edge 3 4 9 = 3
                edge 4 5 4 = 4
                wake 0 = true
                wake 1 = true
                wake 2 = true
                wake 3 = true
                wake 4 = true
                wake 5 = true
                run 0 60 = 60
                node 1 = 2 1 1 0 0 1 -1 9 1 0
                node 2 = 2 1 1 0 1 2 -1 9 0 0
                node 3 = 2 1 1 0 2 3 -1 9 1 0
                handle 1 = 5         # 100 is greater than 9: CORE
                queue 2 = 6@1(0,0,0)
                handle 2 = 6         # CORE again
                queue 3 = 0@3(1,0,0) 6@2(0,0,0)
                marks 2 = -1 1 1 -1 -1
                handle 3 = 0         # put back: edge 3 is BASIC
                marks 3 = -1 -1 1 0 -1
                handle 3 = 6         # CONNECT
                marks 3 = -1 -1 1 1 -1
                queue 4 = 0@3(1,0,0)
                """);
        Script.play(expect, "two nodes that test the same edge at once", """
                begin 2
                edge 0 1 4 = 0
                edge 0 1 2 = 1
                edge 1 0 6 = 2
                wake 0 = true
                wake 1 = true
                handle 0 = 0
                handle 1 = 0
                handle 0 = 1
                handle 1 = 1
                node 0 = 1 1 2 0 1 -1 0 100 1 0
                node 1 = 1 1 2 0 1 -1 0 100 1 0
                queue 0 = 2@0(1,2,0)
                handle 0 = 2         # rejects without an answer, and tests the next
                marks 0 = 2 1 0
                node 0 = 1 1 2 0 1 -1 2 100 0 0
                queue 1 = 2@0(1,2,0) 2@2(1,2,0)
                handle 1 = 2
                marks 1 = 2 1 0
                handle 1 = 2
                marks 1 = 2 1 2
                node 1 = 2 1 2 0 1 -1 -1 100 0 0
                queue 0 = 2@2(1,2,0) 5@1(100,0,0)
                handle 0 = 2
                marks 0 = 2 1 2
                run 0 9 = 2
                about 0 9 = 1
                about 1 9 = 1
                sent = 10
                weight = 2
                """);
        Script.play(expect, "REJECT of an edge that the other node does not test", """
                begin 3
                edge 0 1 2 = 0
                edge 1 2 3 = 1
                edge 0 1 4 = 2
                edge 0 2 5 = 3
                wake 0 = true
                wake 1 = true
                handle 0 = 0
                handle 1 = 0
                handle 1 = 1         # tests edge 1
                handle 0 = 1         # tests edge 2
                node 0 = 1 1 2 0 0 -1 2 100 0 0
                queue 1 = 2@2(1,2,0)
                handle 1 = 2
                marks 1 = 1 0 2 -1
                node 1 = 1 1 2 0 0 -1 1 100 0 0
                queue 0 = 4@2(0,0,0)
                handle 0 = 4         # and tests the next
                marks 0 = 1 -1 2 0
                node 0 = 1 1 2 0 0 -1 3 100 0 0
                queue 2 = 2@1(1,2,0) 2@3(1,2,0)
                """);
        Script.play(expect, "a node that has found takes another in, which then need not look", """
                begin 5
                edge 0 1 1 = 0
                edge 1 3 3 = 1
                edge 3 4 2 = 2
                edge 1 2 5 = 3
                edge 2 0 6 = 4
                wake 0 = true
                wake 1 = true
                wake 3 = true
                wake 4 = true
                handle 0 = 0
                handle 1 = 0
                handle 3 = 0
                handle 4 = 0
                handle 3 = 1
                handle 1 = 1         # tests edge 1
                handle 3 = 2         # another fragment of the same level
                handle 1 = 2
                handle 1 = 3
                node 1 = 2 1 1 0 0 1 -1 3 0 0
                wake 2 = true
                queue 1 = 0@3(0,0,0)
                handle 1 = 0
                node 1 = 2 1 1 0 0 1 -1 3 0 0
                marks 1 = 1 0 -1 1 -1
                queue 2 = 1@3(1,1,2)
                handle 2 = 1
                node 2 = 2 1 1 0 3 -1 -1 100 0 0
                marks 2 = -1 -1 -1 1 0
                queue 1 = empty
                queue 0 = 1@0(1,1,1) 5@0(3,0,0)
                """);
        Script.play(expect, "ACCEPT of an edge that is heavier than what was reported", """
                begin 5
                edge 0 1 1 = 0
                edge 1 2 2 = 1
                edge 2 3 4 = 2
                edge 3 4 3 = 3
                edge 1 4 9 = 4
                wake 2 = true
                wake 0 = true
                wake 3 = true
                wake 4 = true
                handle 3 = 0
                handle 4 = 0
                handle 3 = 1
                handle 4 = 1
                queue 1 = 0@1(0,0,0) 0@0(0,0,0) 2@4(1,3,0)
                handle 1 = 0
                handle 1 = 0
                handle 0 = 0
                handle 1 = 2
                handle 1 = 0
                handle 1 = 1
                handle 1 = 2
                handle 1 = 0         # takes node 2 in
                queue 2 = 2@2(1,3,0) 2@1(1,1,0) 1@1(1,1,1)
                handle 2 = 2
                handle 2 = 2
                handle 2 = 1
                handle 2 = 2
                handle 2 = 2
                handle 3 = 2
                handle 2 = 3
                queue 1 = 4@1(0,0,0) 5@1(4,0,0)
                handle 1 = 4         # tests edge 4
                handle 1 = 5         # BEST by an answer, but it still tests
                node 1 = 1 1 1 0 0 1 4 4 0 0
                handle 4 = 3
                handle 4 = 2
                handle 1 = 3         # 9 is not less than 4
                node 1 = 2 1 1 0 0 1 -1 4 0 0
                queue 0 = 1@0(1,1,1) 5@0(4,0,0)
                """);
        expect.finish();
    }
}
