/** Promise 15: depth. */
public final class Promise15DepthTest {

    private Promise15DepthTest() {
    }

    public static void main(String[] args) {
        Check.promise("15", Promise15DepthTest.class);
    }

    /** "How many loops it is in." */
    private static void promise15Depth() {
        Check.dueEach("branch in loop", Graphs.branchInLoop()::depth, 0, 1, 1, 1, 1, 1, 0, 0);
        Check.dueEach("nested", Graphs.threeNested()::depth, 1, 2, 3, 3, 2, 0);
    }

    /** "0 when it is in none": before, behind and beside a loop, or where there is none. */
    private static void promise15InNone() {
        FlowNest x = Graphs.linked(5, 0, 1, 0, 4, 1, 2, 2, 1, 2, 3);
        Check.dueEach("beside a loop", x::depth, 0, 1, 1, 0, 0);
        Check.due("without links", Graphs.linked(1).depth(0), 0);
        Check.dueEach("two ways in", Graphs.twoWaysIn()::depth, 0, 0, 0);
    }

    /** "Or not reached": though it leads into a loop, or is on a ring of its own. */
    private static void promise15NotReached() {
        FlowNest x = Graphs.linked(6, 0, 1, 1, 2, 2, 1, 3, 2, 3, 1, 4, 4, 5, 4, 4, 5);
        Check.dueEach("depth", x::depth, 0, 1, 1, 0, 0, 0);
    }

    /** A link to itself counts as a loop, and within another one as one more. */
    private static void promise15LinkToItself() {
        Check.due("alone", Graphs.linked(1, 0, 0).depth(0), 1);
        Check.dueEach("within", Graphs.linked(3, 0, 1, 1, 1, 1, 2, 2, 0)::depth, 1, 2, 1);
    }

    /** Two links back to one header are one loop. */
    private static void promise15OneHeader() {
        FlowNest x = Graphs.linked(4, 0, 1, 1, 2, 1, 3, 2, 1, 3, 1);
        Check.dueEach("depth", x::depth, 0, 1, 1, 1);
    }

    /** As deep as can be. */
    private static void promise15Deepest() {
        FlowNest x = Graphs.mostNested();
        for (int v = 0; v < 48; v++) {
            Check.due("depth " + v, x.depth(v), v + 1);
        }
    }

    /** Less deep by each link back that is taken away. */
    private static void promise15LinkBackTakenAway() {
        FlowNest x = Graphs.threeNested();
        Check.dueEach("before", x::depth, 1, 2, 3, 3, 2, 0);
        x.link(4, 1);
        Check.dueEach("without 4 to 1", x::depth, 1, 1, 2, 2, 1, 0);
        x.link(4, 0);
        Check.dueEach("without 4 to 0", x::depth, 0, 0, 1, 1, 0, 0);
        x.link(3, 2);
        Check.dueEach("without 3 to 2", x::depth, 0, 0, 0, 0, 0, 0);
    }

    /** All links that there can be. */
    private static void promise15Full() {
        FlowNest x = Graphs.full();
        for (int v = 0; v < 16; v++) {
            Check.due("depth " + v, x.depth(v), v == 0 ? 1 : 2);
        }
    }

    /** "IndexOutOfBounds: there is no such vertex." */
    private static void promise15NoSuchVertex() {
        Refused.vertex(FlowNest::depth);
    }

    /** "A call that throws changes nothing." */
    private static void promise15RefusedChangesNothing() {
        Refused.vertexChangesNothing(FlowNest::depth);
    }
}
