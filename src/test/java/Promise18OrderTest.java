/** Promise 18: order. */
public final class Promise18OrderTest {

    private static final int NONE = FlowNest.NONE;

    private Promise18OrderTest() {
    }

    public static void main(String[] args) {
        Check.promise("18", Promise18OrderTest.class);
    }

    private static void dueEntered(FlowNest x, long... want) {
        Check.dueEach("entered", v -> x.order(v, false), want);
    }

    private static void dueLeft(FlowNest x, long... want) {
        Check.dueEach("left", v -> x.order(v, true), want);
    }

    /** "ENTERED: vertices in the order in which they are met." */
    private static void promise18Entered() {
        dueEntered(Graphs.branchInLoop(), 0, 1, 2, 6, 3, 4, 5, NONE);
    }

    /** "LEFT: in that in which one goes back from them." */
    private static void promise18Left() {
        dueLeft(Graphs.branchInLoop(), 6, 5, 3, 4, 2, 1, 0, NONE);
    }

    /** "By the link to the least vertex that was not met", in whatever order they were linked. */
    private static void promise18LeastFirst() {
        FlowNest x = Graphs.linked(4, 2, 3, 2, 1, 2, 0, 1, 3);
        x.place(2, false);
        dueEntered(x, 1, 2, 0, 3);
        dueLeft(x, 0, 2, 3, 1);
    }

    /** "From where one is": the least from there, not from the entry. */
    private static void promise18FromWhereOneIs() {
        FlowNest x = Graphs.linked(5, 0, 1, 0, 2, 1, 4, 4, 3);
        dueEntered(x, 0, 1, 4, 3, 2);
        dueLeft(x, 4, 2, 3, 0, 1);
    }

    /** "That was not met": by a link to one that was met, or to itself, one does not go. */
    private static void promise18NotMetAgain() {
        FlowNest x = Graphs.linked(4, 0, 0, 0, 1, 1, 0, 1, 1, 1, 2, 2, 0, 2, 1, 0, 2, 2, 3);
        dueEntered(x, 0, 1, 2, 3);
        dueLeft(x, 3, 2, 1, 0);
    }

    /** "(From 0)": the entry is entered first and left last. */
    private static void promise18FromZero() {
        Check.due("entered alone", Graphs.linked(1).order(0, false), 0);
        Check.due("left alone", Graphs.linked(1).order(0, true), 0);
        FlowNest x = Graphs.linked(3, 2, 1, 1, 0);
        x.place(2, false);
        dueEntered(x, 2, 1, 0);
        dueLeft(x, 0, 1, 2);
    }

    /** "NONE when it is not reached." */
    private static void promise18NotReached() {
        FlowNest x = Graphs.linked(5, 0, 4, 1, 2, 2, 4, 3, 3);
        dueEntered(x, 0, NONE, NONE, NONE, 1);
        dueLeft(x, 1, NONE, NONE, NONE, 0);
        dueEntered(Graphs.linked(3), 0, NONE, NONE);
        dueLeft(Graphs.linked(3), 0, NONE, NONE);
    }

    /** "NONE when it is not reached": not any more, if it was before. */
    private static void promise18NotReachedAnyMore() {
        FlowNest x = Graphs.row(4);
        dueEntered(x, 0, 1, 2, 3);
        x.link(1, 2);
        dueEntered(x, 0, 1, NONE, NONE);
        dueLeft(x, 1, 0, NONE, NONE);
        x.place(2, false);
        dueEntered(x, NONE, NONE, 0, 1);
        dueLeft(x, NONE, NONE, 1, 0);
    }

    /** As far from the entry as can be. */
    private static void promise18LongestRow() {
        FlowNest x = Graphs.row(48);
        for (int v = 0; v < 48; v++) {
            Check.due("entered " + v, x.order(v, false), v);
            Check.due("left " + v, x.order(v, true), 47 - v);
        }
    }

    /** As wide as can be: from 0 to each of the others and back. */
    private static void promise18Widest() {
        FlowNest x = Graphs.linked(48);
        for (int v = 47; v > 0; v--) {
            x.link(0, v);
        }
        for (int v = 1; v < 48; v++) {
            Check.due("entered " + v, x.order(v, false), v);
            Check.due("left " + v, x.order(v, true), v - 1);
        }
        Check.due("left 0", x.order(0, true), 47);
    }

    /** From the last to all, and from each to the next: the longest way is gone first. */
    private static void promise18LongBeforeWide() {
        FlowNest x = Graphs.row(48);
        x.place(47, false);
        for (int v = 47; v >= 0; v--) {
            x.link(47, v);
        }
        for (int v = 0; v < 47; v++) {
            Check.due("entered " + v, x.order(v, false), v + 1);
            Check.due("left " + v, x.order(v, true), 46 - v);
        }
        Check.due("entered 47", x.order(47, false), 0);
        Check.due("left 47", x.order(47, true), 47);
    }

    /** The exit has no part in it. */
    private static void promise18ExitDoesNotMatter() {
        FlowNest x = Graphs.branchInLoop();
        x.place(1, true);
        dueEntered(x, 0, 1, 2, 6, 3, 4, 5, NONE);
        dueLeft(x, 6, 5, 3, 4, 2, 1, 0, NONE);
    }

    /** All links that there can be: upwards, and back. */
    private static void promise18Full() {
        FlowNest x = Graphs.full();
        for (int v = 0; v < 16; v++) {
            Check.due("entered " + v, x.order(v, false), v);
            Check.due("left " + v, x.order(v, true), 15 - v);
        }
        x.place(8, false);
        for (int v = 0; v < 16; v++) {
            Check.due("entered from 8, " + v, x.order(v, false), v == 8 ? 0 : v < 8 ? v + 1 : v);
        }
    }

    /** "IndexOutOfBounds: there is no such vertex." */
    private static void promise18NoSuchVertex() {
        Refused.vertex((x, v) -> x.order(v, false));
        Refused.vertex((x, v) -> x.order(v, true));
    }

    /** "A call that throws changes nothing." */
    private static void promise18RefusedChangesNothing() {
        Refused.vertexChangesNothing((x, v) -> x.order(v, false));
        Refused.vertexChangesNothing((x, v) -> x.order(v, true));
    }
}
