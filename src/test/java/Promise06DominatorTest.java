/** Promise 6: dominator. */
public final class Promise06DominatorTest {

    private static final int NONE = FlowNest.NONE;

    private Promise06DominatorTest() {
    }

    public static void main(String[] args) {
        Check.promise("06", Promise06DominatorTest.class);
    }

    private static void dueDominators(FlowNest x, long... want) {
        Check.dueEach("dominator", v -> x.dominator(v, false), want);
    }

    private static void dueCovers(FlowNest x, long... want) {
        Check.dueEach("cover", v -> x.dominator(v, true), want);
    }

    /** "Of all others that dominate it, the one that all of these dominate." */
    private static void promise06Dominator() {
        dueDominators(Graphs.branchInLoop(), NONE, 0, 1, 1, 1, 4, 5, NONE);
        dueDominators(Graphs.linked(5, 0, 1, 0, 2, 1, 3, 2, 3, 3, 4), NONE, 0, 0, 0, 3);
        dueDominators(Graphs.twoWaysIn(), NONE, 0, 0);
    }

    /** "Or (on cover) its cover." */
    private static void promise06Cover() {
        dueCovers(Graphs.branchInLoop(), 1, 4, 4, 4, 5, 6, NONE, 4);
        dueCovers(Graphs.linked(5, 0, 1, 0, 2, 1, 3, 2, 3, 3, 4), 3, 3, 3, 4, NONE);
        dueCovers(Graphs.linked(4, 1, 2, 2, 1, 1, 3, 2, 3, 0, 1), 1, 3, 3, NONE);
    }

    /** "NONE for the entry." */
    private static void promise06Entry() {
        Check.due("alone", Graphs.linked(1).dominator(0, false), NONE);
        Check.due("without links", Graphs.linked(48).dominator(0, false), NONE);
        Check.due("of a row", Graphs.row(48).dominator(0, false), NONE);
    }

    /** "NONE for the entry": though links lead back to it, or from it to itself. */
    private static void promise06EntryInLoop() {
        Check.due("nested", Graphs.threeNested().dominator(0, false), NONE);
        Check.due("to itself", Graphs.linked(1, 0, 0).dominator(0, false), NONE);
        FlowNest x = Graphs.linked(3, 0, 1, 1, 2, 2, 0);
        for (int entry = 0; entry < 3; entry++) {
            x.place(entry, false);
            Check.due("in a ring, at " + entry, x.dominator(entry, false), NONE);
        }
    }

    /** "NONE for the exit." */
    private static void promise06Exit() {
        Check.due("alone", Graphs.linked(1).dominator(0, true), NONE);
        Check.due("without links", Graphs.linked(48).dominator(47, true), NONE);
        Check.due("of a row", Graphs.row(48).dominator(47, true), NONE);
    }

    /** "NONE for the exit": though links lead on from it. */
    private static void promise06ExitInLoop() {
        Check.due("to itself", Graphs.linked(1, 0, 0).dominator(0, true), NONE);
        FlowNest x = Graphs.linked(3, 0, 1, 1, 2, 2, 0);
        for (int exit = 0; exit < 3; exit++) {
            x.place(exit, true);
            Check.due("in a ring, at " + exit, x.dominator(exit, true), NONE);
        }
    }

    /** The entry has a cover, and the exit a dominator. */
    private static void promise06EntryIsNoExit() {
        FlowNest x = Graphs.row(3);
        Check.due("cover of the entry", x.dominator(0, true), 1);
        Check.due("dominator of the exit", x.dominator(2, false), 1);
    }

    /** "And one that is not reached": though it ends, or others that are not reached lead to it. */
    private static void promise06NotReached() {
        FlowNest x = Graphs.linked(5, 0, 4, 1, 2, 2, 3, 3, 4, 2, 2);
        dueDominators(x, NONE, NONE, NONE, NONE, 0);
    }

    /** "(Does not end)": though it is reached, or leads to others that do not end. */
    private static void promise06DoesNotEnd() {
        FlowNest x = Graphs.linked(5, 0, 1, 1, 2, 2, 3, 0, 4, 2, 2);
        dueCovers(x, 4, NONE, NONE, NONE, NONE);
        dueCovers(Graphs.linked(3, 0, 1, 1, 0), NONE, NONE, NONE);
    }

    /** Links from what is not reached, and to what does not end, are on none of the ways. */
    private static void promise06LinksOnNoWay() {
        dueDominators(Graphs.linked(4, 0, 1, 1, 2, 3, 2), NONE, 0, 1, NONE);
        dueCovers(Graphs.linked(4, 0, 1, 0, 2, 1, 3), 1, 3, NONE, NONE);
    }

    /** The longest row, and the other way round, so that the one above has the larger number. */
    private static void promise06LongestRow() {
        FlowNest up = Graphs.row(48);
        FlowNest down = Graphs.linked(48);
        for (int v = 47; v > 0; v--) {
            down.link(v, v - 1);
        }
        down.place(47, false);
        down.place(0, true);
        for (int v = 0; v < 48; v++) {
            int next = v < 47 ? v + 1 : NONE;
            Check.due("dominator up " + v, up.dominator(v, false), v - 1);
            Check.due("cover up " + v, up.dominator(v, true), next);
            Check.due("dominator down " + v, down.dominator(v, false), next);
            Check.due("cover down " + v, down.dominator(v, true), v - 1);
        }
    }

    /** "All others that dominate it": not one that only the way found first comes by. */
    private static void promise06AnotherWayFromBehind() {
        dueDominators(Graphs.linked(5, 0, 1, 1, 2, 2, 3, 2, 4, 3, 2, 0, 3), NONE, 0, 0, 0, 2);
        FlowNest x = Graphs.linked(5, 1, 0, 2, 1, 3, 2, 4, 2, 2, 3, 3, 0);
        x.place(0, true);
        dueCovers(x, NONE, 0, 0, 0, 2);
    }

    /** The same, with as many ways from behind as there can be. */
    private static void promise06BothWaysRound() {
        FlowNest x = Graphs.bothWaysRound();
        for (int v = 1; v < 48; v++) {
            Check.due("dominator " + v, x.dominator(v, false), 0);
        }
        FlowNest turned = Graphs.linked(48, 1, 0, 47, 0);
        for (int v = 1; v < 47; v++) {
            turned.link(v, v + 1);
            turned.link(v + 1, v);
        }
        turned.place(0, true);
        for (int v = 1; v < 48; v++) {
            Check.due("cover " + v, turned.dominator(v, true), 0);
        }
    }

    /** All links that there can be: a way of one link leads from the entry to each, and to the exit. */
    private static void promise06Full() {
        FlowNest x = Graphs.full();
        for (int v = 0; v < 16; v++) {
            Check.due("dominator " + v, x.dominator(v, false), v == 0 ? NONE : 0);
            Check.due("cover " + v, x.dominator(v, true), v == 15 ? NONE : 15);
        }
        FlowNest row = Graphs.linked(4, 0, 0, 0, 1, 0, 2, 0, 3, 1, 2, 2, 3);
        dueDominators(row, NONE, 0, 0, 0);
    }

    /** "IndexOutOfBounds: there is no such vertex." */
    private static void promise06NoSuchVertex() {
        Refused.vertex((x, v) -> x.dominator(v, false));
        Refused.vertex((x, v) -> x.dominator(v, true));
    }

    /** "A call that throws changes nothing." */
    private static void promise06RefusedChangesNothing() {
        Refused.vertexChangesNothing((x, v) -> x.dominator(v, false));
        Refused.vertexChangesNothing((x, v) -> x.dominator(v, true));
    }
}
