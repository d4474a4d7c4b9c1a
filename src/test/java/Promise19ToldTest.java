/** Promise 19: told. */
public final class Promise19ToldTest {

    private static final int NONE = FlowNest.NONE;

    private Promise19ToldTest() {
    }

    public static void main(String[] args) {
        Check.promise("19", Promise19ToldTest.class);
    }

    private static void dueTold(FlowNest x, long... want) {
        Check.dueEach("told", x::told, want);
    }

    private static void promise19Told() {
        dueTold(Graphs.branchInLoop(), 8, 10, 7, 8, 0, 6);
        dueTold(Graphs.threeNested(), 6, 8, 6, 6, 0, 5);
    }

    /** "How many vertices there are (what = 0)." */
    private static void promise19Vertices() {
        Check.due("none", new FlowNest().told(0), 0);
        Check.due("least", Graphs.linked(1).told(0), 1);
        Check.due("most", Graphs.linked(48).told(0), 48);
    }

    /** "Links (1)": one to itself too, one taken away not, and of what is not reached too. */
    private static void promise19Links() {
        Check.due("none", new FlowNest().told(1), 0);
        Check.due("without", Graphs.linked(48).told(1), 0);
        Check.due("to itself", Graphs.linked(1, 0, 0).told(1), 1);
        Check.due("both ways", Graphs.linked(2, 0, 1, 1, 0).told(1), 2);
        Check.due("taken away", Graphs.linked(2, 0, 1, 1, 0, 0, 1).told(1), 1);
        Check.due("not reached", Graphs.linked(4, 1, 2, 2, 1).told(1), 2);
        Check.due("many", Graphs.mostNested().told(1), 95);
    }

    /** "Are reached (2)": the entry at least. */
    private static void promise19Reached() {
        Check.due("none", new FlowNest().told(2), 0);
        Check.due("one alone", Graphs.linked(1).told(2), 1);
        Check.due("the entry", Graphs.linked(48).told(2), 1);
        Check.due("all", Graphs.row(48).told(2), 48);
        Check.due("some", Graphs.linked(3, 0, 1, 1, 0).told(2), 2);
    }

    /** "End (3)": the exit at least. */
    private static void promise19End() {
        Check.due("none", new FlowNest().told(3), 0);
        Check.due("one alone", Graphs.linked(1).told(3), 1);
        Check.due("the exit", Graphs.linked(48).told(3), 1);
        Check.due("all", Graphs.row(48).told(3), 48);
        Check.due("some", Graphs.linked(4, 0, 1, 1, 0, 2, 3).told(3), 2);
    }

    /** "The entry (4)." */
    private static void promise19Entry() {
        FlowNest x = Graphs.linked(48);
        Check.due("at first", x.told(4), 0);
        x.place(47, false);
        Check.due("placed", x.told(4), 47);
        x.begin(3);
        Check.due("after begin", x.told(4), 0);
    }

    /** "The exit (5)." */
    private static void promise19Exit() {
        FlowNest x = Graphs.linked(48);
        Check.due("at first", x.told(5), 47);
        x.place(0, true);
        Check.due("placed", x.told(5), 0);
        x.begin(3);
        Check.due("after begin", x.told(5), 2);
    }

    /** "NONE for others": too small. */
    private static void promise19TooSmall() {
        FlowNest x = Graphs.branchInLoop();
        for (int what : new int[] {-1, -2, -6, -64, Integer.MIN_VALUE}) {
            Check.due("told(" + what + ")", x.told(what), NONE);
        }
    }

    /** "NONE for others": too large. */
    private static void promise19TooLarge() {
        FlowNest x = Graphs.branchInLoop();
        for (int what : new int[] {6, 7, 8, 32, 64, 256, 65536, Integer.MAX_VALUE}) {
            Check.due("told(" + what + ")", x.told(what), NONE);
        }
    }

    /** "And for the last two when there are no vertices." */
    private static void promise19LastTwoWithoutVertices() {
        FlowNest x = new FlowNest();
        Check.due("entry", x.told(4), NONE);
        Check.due("exit", x.told(5), NONE);
    }

    /** Only the last two: the others are 0, and NONE for what is none of them. */
    private static void promise19OthersWithoutVertices() {
        FlowNest x = new FlowNest();
        dueTold(x, 0, 0, 0, 0);
        Check.due("told(6)", x.told(6), NONE);
        Check.due("told(-1)", x.told(-1), NONE);
    }

    /** All links that there can be. */
    private static void promise19Full() {
        dueTold(Graphs.full(), 16, 256, 16, 16, 0, 15);
    }

    /** To be told changes nothing. */
    private static void promise19ChangesNothing() {
        FlowNest x = Graphs.branchInLoop();
        for (int what = -1; what <= 6; what++) {
            x.told(what);
        }
        Check.dueSame("after all was told", x, Graphs.branchInLoop());
    }
}
