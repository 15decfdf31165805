/**
 * The boundary cases of the document's terms: the least and the most of nodes, edges, weights and
 * answers, and in the handling of each message the values at which it goes another way.
 */
public final class TermsTest {
    public static void main(String[] args) {
        Expect expect = new Expect();
        playNetworks(expect);
        playQueues(expect);
        playLevels(expect);
        playReports(expect);
        playWeights(expect);
        expect.finish();
    }

    private static void playNetworks(Expect expect) {
        Script.play(expect, "all seven nodes and all twelve edges", """
                begin 7
                edge 0 1 50 = 0
                edge 1 2 99 = 1
                edge 2 3 1 = 2
                edge 3 4 2 = 3
                edge 4 5 98 = 4
                edge 5 6 30 = 5
                edge 6 0 31 = 6
                edge 0 3 32 = 7
                edge 1 4 33 = 8
                edge 2 5 34 = 9
                edge 3 6 35 = 10
                edge 4 0 36 = 11
                wake 6 = true
                run 6 999 = 94
                left = 0
                weight = 129         # 1 + 2 + 30 + 31 + 32 + 33
                marks 0 = 2 -1 -1 -1 -1 -1 1 1 -1 -1 -1 2
                marks 1 = 2 2 -1 -1 -1 -1 -1 -1 1 -1 -1 -1
                marks 2 = -1 2 1 -1 -1 -1 -1 -1 -1 2 -1 -1
                marks 3 = -1 -1 1 1 -1 -1 -1 1 -1 -1 2 -1
                marks 4 = -1 -1 -1 1 2 -1 -1 -1 1 -1 -1 2
                marks 5 = -1 -1 -1 -1 2 1 -1 -1 -1 2 -1 -1
                marks 6 = -1 -1 -1 -1 -1 1 1 -1 -1 -1 2 -1
                about 0 9 = 1        # the core is edge 7
                about 3 9 = 1
                about 0 2 = 32
                about 6 2 = 32
                about 6 9 = 0
                """);
        Script.play(expect, "all twelve edges between the same two nodes", """
                begin 2
                edge 0 1 99 = 0
                edge 1 0 98 = 1
                edge 0 1 97 = 2
                edge 1 0 96 = 3
                edge 0 1 95 = 4
                edge 1 0 94 = 5
                edge 0 1 93 = 6
                edge 1 0 92 = 7
                edge 0 1 91 = 8
                edge 1 0 90 = 9
                edge 0 1 89 = 10
                edge 1 0 1 = 11
                wake 0 = true
                queue 1 = 0@11(0,0,0)
                run 0 4 = 4
                node 0 = 1 1 1 0 11 -1 10 100 1 0
                node 1 = 1 1 1 0 11 -1 10 100 1 0
                run 0 999 = 24       # each tests each of the eleven others, and reports
                sent = 28
                marks 0 = 2 2 2 2 2 2 2 2 2 2 2 1
                marks 1 = 2 2 2 2 2 2 2 2 2 2 2 1
                node 0 = 2 1 1 0 11 -1 -1 100 0 1
                node 1 = 2 1 1 0 11 -1 -1 100 0 1
                weight = 1
                """);
        Script.play(expect, "seven nodes without edges", """
                begin 7
                wake 0 = true
                wake 1 = true
                wake 2 = true
                wake 3 = true
                wake 4 = true
                wake 5 = true
                wake 6 = true
                run 0 999 = 0
                node 0 = 2 0 0 0 -1 -1 -1 100 0 0
                node 6 = 2 0 0 0 -1 -1 -1 100 0 0
                sent = 0
                left = 0
                weight = 0
                """);
        Script.play(expect, "one node, and no edge that it could have", """
                begin 1
                wake 0 = true
                run 0 999 = 0
                node 0 = 2 0 0 0 -1 -1 -1 100 0 0
                """);
        Script.play(expect, "parts that no edge connects are done each for itself", """
                begin 5
                edge 0 1 7 = 0
                edge 3 4 8 = 1
                wake 0 = true
                run 0 999 = 6
                about 3 0 = 0        # no message came to it
                wake 3 = true
                run 0 999 = 6
                wake 2 = true
                run 0 999 = 0
                node 0 = 2 1 7 0 0 -1 -1 100 0 1
                node 1 = 2 1 7 0 0 -1 -1 100 0 1
                node 2 = 2 0 0 0 -1 -1 -1 100 0 0
                node 3 = 2 1 8 0 1 -1 -1 100 0 1
                node 4 = 2 1 8 0 1 -1 -1 100 0 1
                weight = 15
                """);
    }

    private static void playQueues(Expect expect) {
        Script.play(expect, "put back into a queue that is else empty", """
                begin 3
                edge 0 1 1 = 0
                edge 1 2 2 = 1
                wake 1 = true        # to node 0
                wake 2 = true        # to node 1
                queue 1 = 0@1(0,0,0)
                handle 1 = 0
                queue 1 = 0@1(0,0,0)
                sent = 2
                left = 2
                """);
        Script.play(expect, "put back by a node that it wakes, which also sends", """
                begin 3
                edge 0 1 1 = 0
                edge 1 2 2 = 1
                wake 2 = true
                handle 1 = 0         # wakes: CONNECT to node 0; and puts back
                queue 1 = 0@1(0,0,0)
                queue 0 = 0@0(0,0,0)
                """);
        Script.play(expect, "put back to the end of a queue of two", """
                begin 3
                edge 0 1 1 = 0
                edge 1 2 2 = 1
                wake 2 = true
                wake 0 = true
                queue 1 = 0@1(0,0,0) 0@0(0,0,0)
                handle 1 = 0
                queue 1 = 0@0(0,0,0) 0@1(0,0,0)
                """);
    }

    private static void playLevels(Expect expect) {
        String levelTwoAndLevelOne = """
                begin 6
                edge 0 1 1 = 0
                edge 1 2 5 = 1
                edge 2 3 2 = 2
                edge 4 5 3 = 3
                edge 5 1 7 = 4
                wake 0 = true
                wake 1 = true
                wake 2 = true
                wake 3 = true
                handle 0 = 0
                handle 1 = 0
                handle 2 = 0
                handle 3 = 0
                handle 1 = 1
                handle 2 = 1
                handle 1 = 2         # the same level, another fragment
                handle 2 = 2
                handle 1 = 3
                handle 2 = 3
                handle 0 = 1
                handle 3 = 1
                handle 1 = 5         # CONNECT 1
                handle 2 = 5         # CONNECT 1
                handle 1 = 0
                handle 2 = 0
                handle 1 = 1         # level 2
                node 1 = 1 2 5 1 1 -1 4 100 0 0
                queue 5 = 2@4(2,5,0)
                wake 4 = true
                wake 5 = true
                handle 5 = 2         # two levels more: put back
                handle 5 = 0
                handle 4 = 0
                handle 5 = 2         # put back
                handle 5 = 1
                node 5 = 1 1 3 0 3 -1 4 100 1 0
                queue 5 = 2@4(2,5,0)
                queue 1 = 2@4(1,3,0)
                """;
        Script.play(expect, "TEST of one level more is put back", levelTwoAndLevelOne + """
                handle 5 = 2
                queue 5 = 2@4(2,5,0)
                marks 5 = -1 -1 -1 1 0
                node 5 = 1 1 3 0 3 -1 4 100 1 0
                queue 1 = 2@4(1,3,0)
                """);
        Script.play(expect, "TEST of one level less is answered", levelTwoAndLevelOne + """
                handle 1 = 2
                queue 5 = 2@4(2,5,0) 3@4(0,0,0)
                queue 1 = empty
                node 1 = 1 2 5 1 1 -1 4 100 0 0
                """);
        Script.play(expect, "CONNECT of one level less is taken in", levelTwoAndLevelOne + """
                handle 1 = 2
                handle 5 = 2
                handle 5 = 3
                node 5 = 2 1 3 0 3 4 -1 7 1 0
                handle 4 = 1
                handle 5 = 2
                handle 5 = 5         # CONNECT 1
                marks 5 = -1 -1 -1 1 1
                queue 1 = 0@4(1,0,0)
                marks 1 = 1 1 -1 -1 0
                handle 1 = 0
                marks 1 = 1 1 -1 -1 1
                node 1 = 1 2 5 2 1 -1 4 100 0 0
                queue 5 = 2@4(2,5,0) 1@4(2,5,1)
                """);
        Script.play(expect, "CONNECT of two levels less is taken in", """
                begin 5
                edge 0 1 1 = 0
                edge 1 2 5 = 1
                edge 2 3 2 = 2
                edge 4 1 7 = 3
                wake 0 = true
                wake 1 = true
                wake 2 = true
                wake 3 = true
                handle 0 = 0
                handle 1 = 0
                handle 2 = 0
                handle 3 = 0
                handle 1 = 1
                handle 2 = 1
                handle 1 = 2
                handle 2 = 2
                handle 1 = 3
                handle 2 = 3
                handle 0 = 1
                handle 3 = 1
                handle 1 = 5
                handle 2 = 5
                handle 1 = 0
                handle 2 = 0
                handle 1 = 1
                node 1 = 1 2 5 1 1 -1 3 100 0 0
                handle 4 = 2         # wakes: CONNECT 0 over its one edge, of a TEST put back
                marks 4 = -1 -1 -1 1
                queue 1 = 0@3(0,0,0)
                handle 1 = 0
                node 1 = 1 2 5 2 1 -1 3 100 0 0
                queue 4 = 2@3(2,5,0) 1@3(2,5,1)
                """);
        Script.play(expect, "CONNECT of the same level over a BASIC edge is put back, over a BRANCH joins", """
                begin 4
                edge 0 1 1 = 0
                edge 1 2 5 = 1
                edge 2 3 2 = 2
                wake 0 = true
                wake 1 = true
                wake 2 = true
                wake 3 = true
                handle 0 = 0
                handle 1 = 0
                handle 2 = 0
                handle 3 = 0
                handle 1 = 1
                handle 2 = 1
                handle 1 = 2
                handle 2 = 2
                handle 1 = 3
                handle 2 = 3
                handle 0 = 1
                handle 1 = 5         # CONNECT 1
                queue 2 = 0@1(1,0,0)
                marks 2 = -1 0 1
                node 2 = 2 1 2 0 2 1 -1 5 1 0
                handle 2 = 0         # BASIC
                queue 2 = 0@1(1,0,0)
                marks 2 = -1 0 1
                handle 3 = 1
                queue 2 = 0@1(1,0,0) 5@2(100,0,0)
                handle 2 = 0
                handle 2 = 5         # CONNECT 1
                marks 2 = -1 1 1
                handle 2 = 0         # BRANCH
                queue 1 = 0@1(1,0,0) 1@1(2,5,1)
                node 2 = 2 1 2 0 2 1 -1 5 0 0
                """);
    }

    private static void playReports(Expect expect) {
        String star = """
                begin 7
                edge 0 1 1 = 0
                edge 0 2 2 = 1
                edge 0 3 3 = 2
                edge 0 4 4 = 3
                edge 0 5 5 = 4
                edge 0 6 6 = 5
                wake 1 = true
                wake 2 = true
                wake 3 = true
                wake 4 = true
                wake 5 = true
                wake 6 = true
                wake 0 = true
                handle 1 = 0
                queue 0 = 0@0(0,0,0) 0@1(0,0,0) 0@2(0,0,0) 0@3(0,0,0) 0@4(0,0,0) 0@5(0,0,0) 1@0(1,1,1)
                run 0 1 = 1
                handle 0 = 0
                handle 0 = 0
                handle 0 = 0
                handle 0 = 0
                handle 0 = 0
                queue 0 = 1@0(1,1,1) 0@1(0,0,0) 0@2(0,0,0) 0@3(0,0,0) 0@4(0,0,0) 0@5(0,0,0)
                handle 0 = 1
                node 0 = 1 1 1 0 0 -1 1 100 5 0
                handle 0 = 0
                about 0 3 = 1
                handle 0 = 0
                handle 0 = 0
                handle 0 = 0
                handle 0 = 0
                node 0 = 1 1 1 5 0 -1 1 100 0 0
                """;
        Script.play(expect, "it reports with the last answer, not with the last but one", star + """
                handle 2 = 2         # put back
                handle 2 = 1
                handle 2 = 2
                handle 3 = 1
                handle 4 = 1
                handle 5 = 1
                handle 6 = 1
                queue 0 = 5@1(100,0,0) 4@1(0,0,0) 5@2(100,0,0) 5@3(100,0,0) 5@4(100,0,0) 5@5(100,0,0)
                handle 0 = 5
                handle 0 = 4         # nothing more to test, but four answers to wait for
                node 0 = 1 1 1 4 0 -1 -1 100 4 0
                handle 0 = 5
                handle 0 = 5
                handle 0 = 5
                node 0 = 1 1 1 1 0 -1 -1 100 1 0
                queue 1 = 1@0(1,1,1)
                handle 0 = 5
                node 0 = 2 1 1 0 0 -1 -1 100 0 0
                queue 1 = 1@0(1,1,1) 5@0(100,0,0)
                """);
        Script.play(expect, "it does not report with the last answer while it tests", star + """
                handle 2 = 2
                handle 3 = 1
                handle 4 = 1
                handle 5 = 1
                handle 6 = 1
                handle 2 = 1
                handle 0 = 5
                handle 0 = 5
                handle 0 = 5
                handle 0 = 5
                handle 0 = 5
                node 0 = 1 1 1 0 0 -1 1 100 0 0
                queue 1 = 1@0(1,1,1)
                handle 2 = 2
                handle 0 = 4
                node 0 = 2 1 1 0 0 -1 -1 100 0 0
                queue 1 = 1@0(1,1,1) 5@0(100,0,0)
                """);
        Script.play(expect, "no BASIC edge to test: it reports at once", """
                begin 2
                edge 0 1 7 = 0
                wake 0 = true
                handle 1 = 0
                handle 0 = 0
                handle 0 = 1
                node 0 = 2 1 7 0 0 -1 -1 100 0 0
                queue 1 = 1@0(1,7,1) 5@0(100,0,0)
                """);
        Script.play(expect, "REPORT 100 over WAY IN with no BEST: DONE", """
                begin 2
                edge 0 1 99 = 0
                wake 0 = true
                run 0 4 = 4
                about 0 9 = 0
                about 1 9 = 0
                handle 0 = 5
                node 0 = 2 1 99 0 0 -1 -1 100 0 1
                about 1 9 = 0        # each knows it by its own message
                handle 1 = 5
                node 1 = 2 1 99 0 0 -1 -1 100 0 1
                """);
    }

    private static void playWeights(Expect expect) {
        Script.play(expect, "the greatest weight, 99, is less than none, 100", """
                begin 5
                edge 0 1 1 = 0
                edge 1 2 2 = 1
                edge 2 3 99 = 2
                edge 3 4 3 = 3
                wake 2 = true
                wake 0 = true
                handle 1 = 0
                handle 0 = 0
                handle 1 = 0
                handle 1 = 0
                handle 1 = 1
                handle 1 = 0
                handle 2 = 2
                handle 2 = 1         # tests edge 2
                handle 3 = 2
                handle 4 = 0
                handle 3 = 2
                handle 3 = 0
                handle 3 = 1
                handle 3 = 2
                handle 2 = 2
                handle 2 = 2
                node 2 = 1 1 1 0 1 -1 2 100 1 0
                handle 2 = 3         # ACCEPT: 99 is less than 100
                node 2 = 2 1 1 0 1 2 -1 99 0 0
                queue 1 = 4@1(0,0,0) 5@1(99,0,0)
                handle 1 = 4
                node 1 = 1 1 1 1 0 -1 -1 100 1 0
                handle 1 = 5         # REPORT 99 is less than 100
                node 1 = 2 1 1 0 0 1 -1 99 0 0
                queue 0 = 1@0(1,1,1) 5@0(99,0,0)
                handle 0 = 1
                handle 0 = 5         # over WAY IN: neither greater than 100 nor 100
                node 0 = 2 1 1 0 0 -1 -1 100 0 0
                queue 1 = 5@0(100,0,0)
                handle 1 = 5         # over WAY IN: greater than 99
                node 1 = 2 1 1 0 0 1 -1 99 0 0
                queue 2 = 6@1(0,0,0)
                handle 2 = 6
                marks 2 = -1 1 1 -1
                run 0 999 = 18
                weight = 105
                """);
        Script.play(expect, "REPORT 100 of an answer leaves BEST none", """
                begin 3
                edge 0 1 1 = 0
                edge 1 2 2 = 1
                wake 2 = true
                wake 0 = true
                wake 1 = true
                handle 0 = 0
                handle 1 = 0
                handle 1 = 0
                handle 1 = 1
                handle 1 = 0
                handle 2 = 2
                handle 2 = 1
                queue 1 = 5@1(100,0,0)
                node 1 = 1 1 1 1 0 -1 1 100 1 0
                handle 1 = 5
                node 1 = 1 1 1 0 0 -1 1 100 0 0
                """);
    }
}
