/** Promise 11: controls. */
public final class Promise11ControlsTest {

    private Promise11ControlsTest() {
    }

    public static void main(String[] args) {
        Check.promise("11", Promise11ControlsTest.class);
    }

    private static long set(int... vertices) {
        return Graphs.set(vertices);
    }

    /** "If u has a link to an ending vertex that v covers, and v does not cover u." */
    private static void promise11Controls() {
        FlowNest x = Graphs.branchInLoop();
        Check.dueEach("controls", x::controls, 0, set(2, 3), 0, 0, set(1, 4), set(5), 0, 0);
        FlowNest y = Graphs.threeNested();
        Check.dueEach("nested", y::controls, 0, 0, 0, set(2, 3), set(0, 1, 2, 3, 4), 0);
    }

    /** "Or is u": itself, though it covers itself. */
    private static void promise11Itself() {
        Check.due("link to itself", Graphs.linked(2, 0, 0, 0, 1).controls(0), set(0));
        Check.dueEach("ring", Graphs.linked(3, 0, 1, 1, 0, 1, 2)::controls, 0, set(0, 1), 0);
    }

    /** "Or is u": the exit too, if ways lead on from it and back. */
    private static void promise11ExitItself() {
        Check.due("alone", Graphs.linked(1, 0, 0).controls(0), set(0));
        Check.due("link to itself", Graphs.linked(2, 0, 1, 1, 1).controls(1), set(1));
        Check.dueEach("ring", Graphs.linked(2, 0, 1, 1, 0)::controls, 0, set(0, 1));
    }

    /** Nothing depends on one that has a single link, or whose branches meet at once. */
    private static void promise11NoBranch() {
        FlowNest x = Graphs.row(48);
        for (int v = 0; v < 48; v++) {
            Check.due("controls " + v, x.controls(v), 0);
        }
        Check.due("without links", Graphs.linked(48).controls(47), 0);
        Check.due("alone", Graphs.linked(1).controls(0), 0);
    }

    /** "A link to an ending vertex": a branch to another does not count. */
    private static void promise11BranchThatDoesNotEnd() {
        FlowNest x = Graphs.linked(4, 0, 1, 0, 2, 1, 3, 2, 2);
        Check.dueEach("controls", x::controls, 0, 0, 0, 0);
    }

    /** "Both ending": nothing depends on one that does not end, though it branches. */
    private static void promise11DoesNotEnd() {
        FlowNest x = Graphs.linked(5, 0, 1, 0, 4, 1, 2, 1, 3, 2, 1, 3, 1, 1, 1);
        Check.dueEach("controls", x::controls, 0, 0, 0, 0, 0);
        FlowNest y = Graphs.linked(3, 0, 1, 1, 0, 0, 0);
        Check.dueEach("where only the exit ends", y::controls, 0, 0, 0);
    }

    /** Whether a vertex is reached does not matter here. */
    private static void promise11NotReached() {
        FlowNest x = Graphs.linked(4, 0, 3, 1, 2, 1, 3, 2, 3);
        Check.dueEach("controls", x::controls, 0, set(2), 0, 0);
        x.place(3, false);
        Check.dueEach("from the exit", x::controls, 0, set(2), 0, 0);
    }

    /** "Vertex v by the bit 2^v": up to the last, and on both sides of an int's bits. */
    private static void promise11AllBits() {
        FlowNest x = Graphs.linked(48, 0, 1, 0, 31, 0, 32, 0, 46, 0, 47, 31, 1, 32, 1, 46, 1, 47, 1);
        x.place(1, true);
        Check.due("controls 0", x.controls(0), set(31, 32, 46, 47));
        x.link(47, 0);
        Check.due("controls 47", x.controls(47), set(0));
    }

    /** All of the 48: the last goes on, or back to the first. */
    private static void promise11All48() {
        FlowNest x = Graphs.row(48);
        x.link(47, 0);
        Check.due("controls 47", x.controls(47), Graphs.span(0, 47));
        Check.due("controls 0", x.controls(0), 0);
    }

    /** All links that there can be: on the exit all depend, on each other all but the exit. */
    private static void promise11Full() {
        FlowNest x = Graphs.full();
        for (int v = 0; v < 16; v++) {
            Check.due("controls " + v, x.controls(v), Graphs.span(0, v == 15 ? 15 : 14));
        }
    }

    /** "IndexOutOfBounds: there is no such vertex." */
    private static void promise11NoSuchVertex() {
        Refused.vertex(FlowNest::controls);
    }

    /** "A call that throws changes nothing." */
    private static void promise11RefusedChangesNothing() {
        Refused.vertexChangesNothing(FlowNest::controls);
    }
}
