/** Promise 5: isReached. */
public final class Promise05IsReachedTest {

    private Promise05IsReachedTest() {
    }

    public static void main(String[] args) {
        Check.promise("05", Promise05IsReachedTest.class);
    }

    private static void dueReached(FlowNest x, long... want) {
        Check.dueEach("reached", v -> x.isReached(v, false) ? 1 : 0, want);
    }

    private static void dueEnds(FlowNest x, long... want) {
        Check.dueEach("ends", v -> x.isReached(v, true) ? 1 : 0, want);
    }

    /** "REACHED, if there is a way to it from the entry": not from another vertex. */
    private static void promise05Reached() {
        dueReached(Graphs.linked(5, 0, 1, 1, 2, 3, 1, 3, 4), 1, 1, 1, 0, 0);
        dueReached(Graphs.branchInLoop(), 1, 1, 1, 1, 1, 1, 1, 0);
    }

    /** "It ENDS, if there is one from it to the exit": not to another vertex. */
    private static void promise05Ends() {
        dueEnds(Graphs.linked(5, 0, 1, 1, 2, 3, 1, 3, 4), 0, 0, 0, 1, 1);
        dueEnds(Graphs.branchInLoop(), 1, 1, 1, 1, 1, 1, 1, 1);
    }

    /** "A WAY is a row of links, perhaps none": so the entry is reached and the exit ends. */
    private static void promise05WayOfNoLinks() {
        FlowNest x = Graphs.linked(3);
        dueReached(x, 1, 0, 0);
        dueEnds(x, 0, 0, 1);
        x.place(1, false);
        x.place(1, true);
        dueReached(x, 0, 1, 0);
        dueEnds(x, 0, 1, 0);
    }

    private static void promise05OneVertex() {
        FlowNest x = Graphs.linked(1);
        dueReached(x, 1);
        dueEnds(x, 1);
    }

    /** The longest way without a vertex twice. */
    private static void promise05LongestWay() {
        FlowNest x = Graphs.row(48);
        for (int v = 0; v < 48; v++) {
            Check.due(v + " is reached", x.isReached(v, false), true);
            Check.due(v + " ends", x.isReached(v, true), true);
        }
    }

    /** The longest way from the last to the first, so that none is met by going on upwards. */
    private static void promise05LongestWayDown() {
        FlowNest x = Graphs.linked(48);
        for (int v = 47; v > 0; v--) {
            x.link(v, v - 1);
        }
        x.place(47, false);
        x.place(0, true);
        Check.due("0 is reached", x.isReached(0, false), true);
        Check.due("47 ends", x.isReached(47, true), true);
        x.link(24, 23);
        Check.due("23 is reached", x.isReached(23, false), false);
        Check.due("24 is reached", x.isReached(24, false), true);
        Check.due("23 ends", x.isReached(23, true), true);
        Check.due("24 ends", x.isReached(24, true), false);
    }

    /** A link is no way against itself. */
    private static void promise05NotAgainstLinks() {
        FlowNest x = Graphs.linked(3, 1, 0, 2, 1);
        dueReached(x, 1, 0, 0);
        dueEnds(x, 0, 0, 1);
    }

    /** A link to itself reaches nothing else. */
    private static void promise05LinkToItself() {
        FlowNest x = Graphs.linked(3, 0, 0, 1, 1, 2, 2);
        dueReached(x, 1, 0, 0);
        dueEnds(x, 0, 0, 1);
    }

    /** All links that there can be. */
    private static void promise05Full() {
        FlowNest x = Graphs.full();
        for (int v = 0; v < 16; v++) {
            Check.due(v + " is reached", x.isReached(v, false), true);
            Check.due(v + " ends", x.isReached(v, true), true);
        }
    }

    /** "IndexOutOfBounds: there is no such vertex." */
    private static void promise05NoSuchVertex() {
        Refused.vertex((x, v) -> x.isReached(v, false) ? 1 : 0);
        Refused.vertex((x, v) -> x.isReached(v, true) ? 1 : 0);
    }

    /** "A call that throws changes nothing." */
    private static void promise05RefusedChangesNothing() {
        Refused.vertexChangesNothing((x, v) -> x.isReached(v, false) ? 1 : 0);
        Refused.vertexChangesNothing((x, v) -> x.isReached(v, true) ? 1 : 0);
    }
}
