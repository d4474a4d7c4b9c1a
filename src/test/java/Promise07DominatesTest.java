/** Promise 7: dominates. */
public final class Promise07DominatesTest {

    private Promise07DominatesTest() {
    }

    public static void main(String[] args) {
        Check.promise("07", Promise07DominatesTest.class);
    }

    private static void dueDominated(FlowNest x, int u, long... want) {
        Check.dueEach(u + " dominates", v -> x.dominates(u, v, false) ? 1 : 0, want);
    }

    private static void dueCovered(FlowNest x, int u, long... want) {
        Check.dueEach(u + " covers", v -> x.dominates(u, v, true) ? 1 : 0, want);
    }

    /** "If each way from the entry to v comes by u." */
    private static void promise07Dominates() {
        FlowNest x = Graphs.branchInLoop();
        dueDominated(x, 1, 0, 1, 1, 1, 1, 1, 1, 0);
        dueDominated(x, 2, 0, 0, 1, 0, 0, 0, 0, 0);
        dueDominated(x, 4, 0, 0, 0, 0, 1, 1, 1, 0);
    }

    /** "u COVERS v, if each way from v to the exit comes by u." */
    private static void promise07Covers() {
        FlowNest x = Graphs.branchInLoop();
        dueCovered(x, 4, 1, 1, 1, 1, 1, 0, 0, 1);
        dueCovered(x, 2, 0, 0, 1, 0, 0, 0, 0, 0);
        dueCovered(x, 1, 1, 1, 0, 0, 0, 0, 0, 0);
    }

    /** "(v itself does)": be it the entry, the exit or any other. */
    private static void promise07Itself() {
        FlowNest x = Graphs.row(48);
        for (int v = 0; v < 48; v++) {
            Check.due(v + " dominates itself", x.dominates(v, v, false), true);
            Check.due(v + " covers itself", x.dominates(v, v, true), true);
        }
    }

    /** "(v itself does)": of one vertex alone, without links and with one to itself. */
    private static void promise07OneVertex() {
        for (FlowNest x : new FlowNest[] {Graphs.linked(1), Graphs.linked(1, 0, 0)}) {
            Check.due("dominates itself", x.dominates(0, 0, false), true);
            Check.due("covers itself", x.dominates(0, 0, true), true);
        }
    }

    /** "Both reached": one that is not does not even dominate itself. */
    private static void promise07ItselfNotReached() {
        FlowNest x = Graphs.linked(3, 0, 2, 1, 1, 1, 2);
        Check.due("dominates itself", x.dominates(1, 1, false), false);
        Check.due("covers itself, as it ends", x.dominates(1, 1, true), true);
    }

    /** "Both ending": one that does not does not even cover itself. */
    private static void promise07ItselfNotEnding() {
        FlowNest x = Graphs.linked(3, 0, 1, 1, 1, 0, 2);
        Check.due("covers itself", x.dominates(1, 1, true), false);
        Check.due("dominates itself, as it is reached", x.dominates(1, 1, false), true);
    }

    /** "Both reached": no way leads to such a v, yet none dominates it. */
    private static void promise07OneNotReached() {
        FlowNest x = Graphs.branchInLoop();
        dueDominated(x, 7, 0, 0, 0, 0, 0, 0, 0, 0);
        for (int u = 0; u < 8; u++) {
            Check.due(u + " dominates 7", x.dominates(u, 7, false), false);
        }
        FlowNest y = Graphs.linked(4, 1, 2, 2, 3);
        Check.due("of two that are not", y.dominates(1, 2, false), false);
        Check.due("the entry one that is not", y.dominates(0, 2, false), false);
    }

    /** "Both ending": no way leads from such a v, yet none covers it. */
    private static void promise07OneNotEnding() {
        FlowNest x = Graphs.linked(5, 0, 1, 1, 2, 1, 4, 2, 3, 3, 2);
        dueCovered(x, 2, 0, 0, 0, 0, 0);
        for (int u = 0; u < 5; u++) {
            Check.due(u + " covers 2", x.dominates(u, 2, true), false);
        }
        dueCovered(x, 1, 1, 1, 0, 0, 0);
    }

    /** The entry dominates all that are reached, and only itself dominates it. */
    private static void promise07Entry() {
        FlowNest x = Graphs.threeNested();
        dueDominated(x, 0, 1, 1, 1, 1, 1, 1);
        for (int u = 1; u < 6; u++) {
            Check.due(u + " dominates the entry", x.dominates(u, 0, false), false);
        }
    }

    /** The exit covers all that end, and only itself covers it. */
    private static void promise07Exit() {
        FlowNest x = Graphs.linked(4, 0, 1, 1, 2, 2, 3, 3, 0);
        dueCovered(x, 3, 1, 1, 1, 1);
        for (int u = 0; u < 3; u++) {
            Check.due(u + " covers the exit", x.dominates(u, 3, true), false);
        }
    }

    /** Far from one another, and not the other way. */
    private static void promise07FirstAndLast() {
        FlowNest x = Graphs.row(48);
        Check.due("0 dominates 47", x.dominates(0, 47, false), true);
        Check.due("47 dominates 0", x.dominates(47, 0, false), false);
        Check.due("0 covers 47", x.dominates(0, 47, true), false);
        Check.due("47 covers 0", x.dominates(47, 0, true), true);
        Check.due("31 dominates 32", x.dominates(31, 32, false), true);
        Check.due("32 dominates 31", x.dominates(32, 31, false), false);
    }

    /** "Each way": also the one that comes to v from behind. */
    private static void promise07EachWay() {
        FlowNest x = Graphs.linked(5, 0, 1, 1, 2, 2, 3, 2, 4, 3, 2, 0, 3);
        dueDominated(x, 1, 0, 1, 0, 0, 0);
        dueDominated(x, 2, 0, 0, 1, 0, 1);
        FlowNest y = Graphs.bothWaysRound();
        for (int v = 2; v < 48; v++) {
            Check.due("1 dominates " + v, y.dominates(1, v, false), false);
            Check.due("47 dominates " + (v - 1), y.dominates(47, v - 1, false), false);
        }
    }

    /** All links that there can be: but for the entry, or the exit, each has only itself. */
    private static void promise07Full() {
        FlowNest x = Graphs.full();
        for (int v = 0; v < 16; v++) {
            Check.due("0 dominates " + v, x.dominates(0, v, false), true);
            Check.due("15 covers " + v, x.dominates(15, v, true), true);
            Check.due("8 dominates " + v, x.dominates(8, v, false), v == 8);
            Check.due("15 dominates " + v, x.dominates(15, v, false), v == 15);
            Check.due("0 covers " + v, x.dominates(0, v, true), v == 0);
            Check.due("8 covers " + v, x.dominates(8, v, true), v == 8);
        }
    }

    /** "IndexOutOfBounds: there is no such vertex": the first. */
    private static void promise07NoSuchFirst() {
        Refused.vertex((x, v) -> x.dominates(v, 0, false) ? 1 : 0);
        Refused.vertex((x, v) -> x.dominates(v, 0, true) ? 1 : 0);
    }

    /** "IndexOutOfBounds: there is no such vertex": the second. */
    private static void promise07NoSuchSecond() {
        Refused.vertex((x, v) -> x.dominates(0, v, false) ? 1 : 0);
        Refused.vertex((x, v) -> x.dominates(0, v, true) ? 1 : 0);
    }

    private static void promise07NeitherIsThere() {
        Refused.vertex((x, v) -> x.dominates(v, v, false) ? 1 : 0);
        Refused.vertex((x, v) -> x.dominates(v, v, true) ? 1 : 0);
    }

    /** "A call that throws changes nothing." */
    private static void promise07RefusedChangesNothing() {
        Refused.vertexChangesNothing((x, v) -> x.dominates(v, 0, false) ? 1 : 0);
        Refused.vertexChangesNothing((x, v) -> x.dominates(0, v, true) ? 1 : 0);
    }
}
