/** Promise 9: frontier. */
public final class Promise09FrontierTest {

    private Promise09FrontierTest() {
    }

    public static void main(String[] args) {
        Check.promise("09", Promise09FrontierTest.class);
    }

    private static long set(int... vertices) {
        return Graphs.set(vertices);
    }

    /** "All reached w that have a link from a reached vertex that v dominates, but that v does not." */
    private static void promise09Frontier() {
        FlowNest x = Graphs.branchInLoop();
        Check.dueEach("frontier", x::frontier, 0, set(1), set(4), set(4), set(1), set(5), 0, 0);
        FlowNest y = Graphs.twoWaysIn();
        Check.dueEach("frontier with two ways in", y::frontier, 0, set(2), set(1));
    }

    /** "Or that are v": itself, though it dominates itself. */
    private static void promise09Itself() {
        FlowNest x = Graphs.threeNested();
        Check.dueEach("nested", x::frontier, set(0), set(0, 1), set(0, 1, 2), set(0, 1, 2), set(0, 1), 0);
        Check.due("link to itself", Graphs.linked(2, 0, 1, 1, 1).frontier(1), set(1));
    }

    /** "Or that are v": the entry too. */
    private static void promise09EntryItself() {
        Check.due("link to itself", Graphs.linked(1, 0, 0).frontier(0), set(0));
        Check.dueEach("ring", Graphs.linked(2, 0, 1, 1, 0)::frontier, set(0), set(0));
    }

    /** What v dominates, but for itself, is not in its frontier. */
    private static void promise09NotWhatItDominates() {
        FlowNest x = Graphs.row(48);
        for (int v = 0; v < 48; v++) {
            Check.due("frontier " + v, x.frontier(v), 0);
        }
        Check.due("inner loop", Graphs.linked(4, 0, 1, 1, 2, 2, 1, 2, 3).frontier(0), 0);
    }

    /** Without a link there is no frontier. */
    private static void promise09NoLinks() {
        Check.due("alone", Graphs.linked(1).frontier(0), 0);
        Check.due("entry", Graphs.linked(48).frontier(0), 0);
    }

    /** "Empty when it is not reached": though it has links to what is, and to itself. */
    private static void promise09NotReached() {
        FlowNest x = Graphs.linked(4, 0, 1, 2, 1, 2, 2, 2, 3);
        Check.dueEach("frontier", x::frontier, 0, 0, 0, 0);
        Check.due("without links", Graphs.linked(48).frontier(47), 0);
    }

    /** "A link from a reached vertex": one from another does not part what v dominates. */
    private static void promise09LinkFromNotReached() {
        FlowNest x = Graphs.linked(5, 0, 1, 1, 2, 3, 2, 3, 1, 4, 4);
        Check.dueEach("frontier", x::frontier, 0, 0, 0, 0, 0);
    }

    /** "Vertex v by the bit 2^v": up to the last, and on both sides of an int's bits. */
    private static void promise09AllBits() {
        FlowNest x = Graphs.linked(48, 0, 1, 0, 31, 0, 32, 0, 46, 0, 47, 1, 31, 1, 32, 1, 46, 1, 47);
        Check.due("frontier 1", x.frontier(1), set(31, 32, 46, 47));
        x.link(1, 1);
        x.link(47, 1);
        Check.due("frontier 1, itself", x.frontier(1), set(1, 31, 32, 46, 47));
        Check.due("frontier 47", x.frontier(47), set(1));
    }

    /** All of the 48. */
    private static void promise09All48() {
        FlowNest x = Graphs.mostNested();
        for (int v = 0; v < 48; v++) {
            Check.due("frontier " + v, x.frontier(v), Graphs.span(0, v));
        }
    }

    /** All links that there can be: the entry dominates all but has itself, each other has all. */
    private static void promise09Full() {
        FlowNest x = Graphs.full();
        for (int v = 0; v < 16; v++) {
            Check.due("frontier " + v, x.frontier(v), v == 0 ? set(0) : Graphs.span(0, 15));
        }
    }

    /** "IndexOutOfBounds: there is no such vertex." */
    private static void promise09NoSuchVertex() {
        Refused.vertex(FlowNest::frontier);
    }

    /** "A call that throws changes nothing." */
    private static void promise09RefusedChangesNothing() {
        Refused.vertexChangesNothing(FlowNest::frontier);
    }
}
