/** Promise 1: a new object has no nodes. */
public final class NewObjectTest {
    public static void main(String[] args) {
        Expect expect = new Expect();
        Class<IndexOutOfBoundsException> noNode = IndexOutOfBoundsException.class;
        MergingFragments x = new MergingFragments();
        for (int node = -1; node <= 7; node++) {
            int at = node;
            expect.fails("wake(" + at + ")", noNode, () -> x.wake(at));
            expect.fails("handle(" + at + ")", noNode, () -> x.handle(at));
            expect.fails("run(" + at + ", 5)", noNode, () -> x.run(at, 5));
            expect.fails("about(" + at + ", 0)", noNode, () -> x.about(at, 0));
            expect.fails("mark(" + at + ", 0)", noNode, () -> x.mark(at, 0));
            expect.fails("message(" + at + ", 0, 0)", noNode, () -> x.message(at, 0, 0));
            expect.fails("edge(" + at + ", 1, 1)", noNode, () -> x.edge(at, 1, 1));
        }
        expect.equal("sent()", 0, x::sent);
        expect.equal("left()", 0, x::left);
        expect.equal("weight()", 0, x::weight);
        expect.equal("NONE", -1, () -> MergingFragments.NONE);
        expectOwnNodes(expect);
        expect.finish();
    }

    /** A new object has no nodes whatever was done with another one. */
    private static void expectOwnNodes(Expect expect) {
        MergingFragments one = new MergingFragments();
        one.begin(7);
        one.edge(0, 6, 7);
        one.wake(0);
        MergingFragments other = new MergingFragments();
        expect.fails("about(0, 0) of another", IndexOutOfBoundsException.class, () -> other.about(0, 0));
        expect.equal("sent() of another", 0, other::sent);
        other.begin(7);
        expect.equal("left() of another", 0, other::left);
        expect.equal("edge(0, 6, 7) of another", 0, () -> other.edge(0, 6, 7));
        expect.equal("left()", 1, one::left);
    }
}
