/** Promise 16: header. */
public final class Promise16HeaderTest {

    private static final int NONE = FlowNest.NONE;

    private Promise16HeaderTest() {
    }

    public static void main(String[] args) {
        Check.promise("16", Promise16HeaderTest.class);
    }

    private static void dueInner(FlowNest x, long... want) {
        Check.dueEach("inner header", v -> x.header(v, false), want);
    }

    private static void dueOuter(FlowNest x, long... want) {
        Check.dueEach("outer header", v -> x.header(v, true), want);
    }

    /** "INNER header: the one of the least of them": a header's is itself. */
    private static void promise16Inner() {
        dueInner(Graphs.branchInLoop(), NONE, 1, 1, 1, 1, 5, NONE, NONE);
        dueInner(Graphs.threeNested(), 0, 1, 2, 2, 1, NONE);
    }

    /** "Or (on outer) the inner header but itself": for one that is no header, the inner one. */
    private static void promise16Outer() {
        dueOuter(Graphs.branchInLoop(), NONE, NONE, 1, 1, 1, NONE, NONE, NONE);
        dueOuter(Graphs.threeNested(), NONE, 0, 1, 2, 1, NONE);
    }

    /** "The least of them": by what is in it, not by the header's number. */
    private static void promise16LeastLoopWithLargerHeaders() {
        FlowNest x = Graphs.linked(6, 5, 4, 4, 3, 3, 2, 2, 1, 1, 0, 2, 3, 1, 4, 1, 5);
        x.place(5, false);
        dueInner(x, NONE, 4, 3, 3, 4, 5);
        dueOuter(x, NONE, 4, 3, 4, 5, NONE);
    }

    /** "NONE when it is in no such loop": in none at all. */
    private static void promise16InNone() {
        FlowNest x = Graphs.linked(5, 0, 1, 0, 4, 1, 2, 2, 1, 2, 3);
        dueInner(x, NONE, 1, 1, NONE, NONE);
        dueOuter(x, NONE, NONE, 1, NONE, NONE);
        dueInner(Graphs.linked(1), NONE);
        dueOuter(Graphs.linked(1), NONE);
        dueInner(Graphs.twoWaysIn(), NONE, NONE, NONE);
    }

    /** "NONE when it is in no such loop": on outer, a header that is in no other's. */
    private static void promise16InNoOther() {
        Check.due("alone", Graphs.linked(1, 0, 0).header(0, true), NONE);
        Check.due("outermost", Graphs.threeNested().header(0, true), NONE);
        FlowNest apart = Graphs.linked(6, 0, 1, 1, 2, 2, 1, 2, 3, 3, 4, 4, 3, 4, 5);
        dueInner(apart, NONE, 1, 1, 3, 3, NONE);
        dueOuter(apart, NONE, NONE, 1, NONE, 3, NONE);
    }

    /** "NONE when it is in no such loop": nor is one that is not reached. */
    private static void promise16NotReached() {
        FlowNest x = Graphs.linked(6, 0, 1, 1, 2, 2, 1, 3, 2, 3, 1, 4, 4, 5, 4, 4, 5);
        dueInner(x, NONE, 1, 1, NONE, NONE, NONE);
        dueOuter(x, NONE, NONE, 1, NONE, NONE, NONE);
    }

    /** A link to itself makes a header, whose outer one is that of the loop around. */
    private static void promise16LinkToItself() {
        Check.due("alone", Graphs.linked(1, 0, 0).header(0, false), 0);
        FlowNest x = Graphs.linked(4, 0, 1, 1, 2, 2, 2, 2, 1, 2, 3);
        dueInner(x, NONE, 1, 2, NONE);
        dueOuter(x, NONE, NONE, 1, NONE);
    }

    /** As deep as can be: each is a header, and the one before is around it. */
    private static void promise16Deepest() {
        FlowNest x = Graphs.mostNested();
        for (int v = 0; v < 48; v++) {
            Check.due("inner " + v, x.header(v, false), v);
            Check.due("outer " + v, x.header(v, true), v - 1);
        }
    }

    /** The next one takes its place, once the link back is taken away. */
    private static void promise16LinkBackTakenAway() {
        FlowNest x = Graphs.threeNested();
        Check.due("inner of 3", x.header(3, false), 2);
        x.link(3, 2);
        Check.due("inner of 3 without 2's", x.header(3, false), 1);
        x.link(4, 1);
        Check.due("inner of 3 without 1's", x.header(3, false), 0);
        x.link(4, 0);
        Check.due("inner of 3 without 0's", x.header(3, false), NONE);
    }

    /** All links that there can be. */
    private static void promise16Full() {
        FlowNest x = Graphs.full();
        for (int v = 0; v < 16; v++) {
            Check.due("inner " + v, x.header(v, false), v);
            Check.due("outer " + v, x.header(v, true), v == 0 ? NONE : 0);
        }
    }

    /** "IndexOutOfBounds: there is no such vertex." */
    private static void promise16NoSuchVertex() {
        Refused.vertex((x, v) -> x.header(v, false));
        Refused.vertex((x, v) -> x.header(v, true));
    }

    /** "A call that throws changes nothing." */
    private static void promise16RefusedChangesNothing() {
        Refused.vertexChangesNothing((x, v) -> x.header(v, false));
        Refused.vertexChangesNothing((x, v) -> x.header(v, true));
    }
}
