/** Promise 8: level. */
public final class Promise08LevelTest {

    private static final int NONE = FlowNest.NONE;

    private Promise08LevelTest() {
    }

    public static void main(String[] args) {
        Check.promise("08", Promise08LevelTest.class);
    }

    /** "LEVEL: how many others dominate it." */
    private static void promise08Level() {
        Check.dueEach("level", Graphs.branchInLoop()::level, 0, 1, 2, 2, 2, 3, 4, NONE);
        Check.dueEach("level nested", Graphs.threeNested()::level, 0, 1, 2, 3, 4, 5);
        Check.dueEach("level with two ways in", Graphs.twoWaysIn()::level, 0, 1, 1);
    }

    /** "How many others": so 0 for the entry, in a loop or not. */
    private static void promise08Entry() {
        Check.due("alone", Graphs.linked(1).level(0), 0);
        Check.due("with a link to itself", Graphs.linked(1, 0, 0).level(0), 0);
        FlowNest x = Graphs.linked(3, 0, 1, 1, 2, 2, 0);
        x.place(2, false);
        Check.dueEach("in a ring", x::level, 1, 2, 0);
    }

    /** "NONE when it is not reached": though it ends, or has links, or one to itself. */
    private static void promise08NotReached() {
        Check.dueEach("level", Graphs.linked(4, 0, 3, 1, 1, 1, 2, 2, 3)::level, 0, NONE, NONE, 1);
        Check.due("without links", Graphs.linked(48).level(47), NONE);
    }

    /** As deep as can be. */
    private static void promise08LongestRow() {
        FlowNest x = Graphs.row(48);
        for (int v = 0; v < 48; v++) {
            Check.due("level " + v, x.level(v), v);
        }
    }

    /** Reached by one link of 0 each, however many there are. */
    private static void promise08Widest() {
        FlowNest x = Graphs.linked(48);
        for (int v = 1; v < 48; v++) {
            x.link(0, v);
        }
        for (int v = 1; v < 48; v++) {
            Check.due("level " + v, x.level(v), 1);
        }
    }

    /** Of those on a way only what is on all of them counts. */
    private static void promise08BothWaysRound() {
        FlowNest x = Graphs.bothWaysRound();
        for (int v = 1; v < 48; v++) {
            Check.due("level " + v, x.level(v), 1);
        }
        Check.dueEach("another way from behind",
                Graphs.linked(5, 0, 1, 1, 2, 2, 3, 2, 4, 3, 2, 0, 3)::level, 0, 1, 1, 1, 2);
    }

    /** All links that there can be. */
    private static void promise08Full() {
        FlowNest x = Graphs.full();
        for (int v = 0; v < 16; v++) {
            Check.due("level " + v, x.level(v), v == 0 ? 0 : 1);
        }
    }

    /** "IndexOutOfBounds: there is no such vertex." */
    private static void promise08NoSuchVertex() {
        Refused.vertex(FlowNest::level);
    }

    /** "A call that throws changes nothing." */
    private static void promise08RefusedChangesNothing() {
        Refused.vertexChangesNothing(FlowNest::level);
    }
}
