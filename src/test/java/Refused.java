/** Calls that are to be refused: what they throw, and that they change nothing. */
final class Refused {

    interface OfVertex {
        long answer(FlowNest x, int v);
    }

    private static final Class<IndexOutOfBoundsException> NO_VERTEX = IndexOutOfBoundsException.class;
    private static final Class<IllegalArgumentException> NO_SIZE = IllegalArgumentException.class;

    /** With 64 and its like, by which a long is shifted as by 0, so that they could pass for vertex 0. */
    private static final int[] TOO_SMALL = {-1, -2, -8, -48, -63, -64, Integer.MIN_VALUE};
    private static final int[] TOO_LARGE = {8, 9, 47, 48, 49, 63, 64, 65, 71, 1 << 16, Integer.MAX_VALUE};

    private Refused() {
    }

    /** "IndexOutOfBounds: there is no such vertex." */
    static void vertex(OfVertex call) {
        dueNoVertex("of eight", Graphs.branchInLoop(), call, TOO_SMALL);
        dueNoVertex("of eight", Graphs.branchInLoop(), call, TOO_LARGE);
        dueNoVertex("of one", Graphs.linked(1), call, -1, 1, 64);
        dueNoVertex("of all 48", Graphs.linked(48), call, -1, 48, 49, 64);
        dueNoVertex("of none", new FlowNest(), call, -1, 0, 1, 47, 48);
        FlowNest fewer = Graphs.row(48);
        fewer.begin(2);
        dueNoVertex("of two that were 48", fewer, call, -1, 2, 47, 48);
    }

    private static void dueNoVertex(String where, FlowNest x, OfVertex call, int... wrong) {
        for (int v : wrong) {
            Check.dueThrow("vertex " + v + " " + where, NO_VERTEX, () -> call.answer(x, v));
        }
    }

    /** "A call that throws changes nothing": neither before all has been asked for, nor after it. */
    static void vertexChangesNothing(OfVertex call) {
        FlowNest fresh = Graphs.branchInLoop();
        dueNoVertex("of eight", fresh, call, -1, 8, 64);
        Check.dueSame("after refusals", fresh, Graphs.branchInLoop());
        FlowNest asked = Graphs.threeNested();
        Graphs.answers(asked);
        dueNoVertex("of six", asked, call, -1, 6, 64);
        Check.dueSame("after answers and refusals", asked, Graphs.threeNested());
        FlowNest empty = new FlowNest();
        dueNoVertex("of none", empty, call, 0, -1);
        Check.dueSame("without vertices, after refusals", empty, new FlowNest());
        Check.due("begin after refusals", empty.begin(3), 0);
        Check.dueSame("begun after refusals", empty, Graphs.linked(3));
    }

    /** "IllegalArgument: n is not 1 .. 48." */
    static void size(FlowNest x, int... wrong) {
        for (int n : wrong) {
            Check.dueThrow("begin(" + n + ")", NO_SIZE, () -> x.begin(n));
        }
    }
}
