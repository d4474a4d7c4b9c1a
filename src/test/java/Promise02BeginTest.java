/** Promise 2: begin. */
public final class Promise02BeginTest {

    private Promise02BeginTest() {
    }

    public static void main(String[] args) {
        Check.promise("02", Promise02BeginTest.class);
    }

    /** "So many vertices": the least number of them, which are entry and exit in one. */
    private static void promise02LeastNumber() {
        FlowNest x = new FlowNest();
        Check.due("begin(1)", x.begin(1), 0);
        Check.due("vertices", x.told(0), 1);
        Check.due("entry", x.told(4), 0);
        Check.due("exit", x.told(5), 0);
        Check.due("0 is there", x.isReached(0, false), true);
    }

    /** "n at most 48": the most, of which each is there. */
    private static void promise02MostNumber() {
        FlowNest x = new FlowNest();
        Check.due("begin(48)", x.begin(48), 0);
        Check.due("vertices", x.told(0), 48);
        for (int v = 0; v < 48; v++) {
            Check.due(v + " is reached", x.isReached(v, false), v == 0);
            Check.due(v + " ends", x.isReached(v, true), v == 47);
        }
    }

    /** "IllegalArgument: n is not 1 .. 48": too small. */
    private static void promise02TooSmall() {
        Refused.size(new FlowNest(), 0, -1, -48, Integer.MIN_VALUE);
        Refused.size(Graphs.branchInLoop(), 0, -1, -48, Integer.MIN_VALUE);
    }

    /** "IllegalArgument: n is not 1 .. 48": too large, also where fewer bits of it would fit. */
    private static void promise02TooLarge() {
        int[] wrong = {49, 50, 63, 64, 65, 257, 65537, Integer.MAX_VALUE};
        Refused.size(new FlowNest(), wrong);
        Refused.size(Graphs.branchInLoop(), wrong);
        Refused.size(Graphs.linked(48), wrong);
    }

    /** "A call that throws changes nothing." */
    private static void promise02RefusedChangesNothing() {
        FlowNest fresh = Graphs.branchInLoop();
        Refused.size(fresh, 0, 49);
        Check.dueSame("after refusals", fresh, Graphs.branchInLoop());
        FlowNest asked = Graphs.threeNested();
        Graphs.answers(asked);
        Refused.size(asked, 0, 49);
        Check.dueSame("after answers and refusals", asked, Graphs.threeNested());
        Check.due("begin after refusals", asked.begin(2), 6);
    }

    /** "A call that throws changes nothing": so there are no vertices as yet. */
    private static void promise02RefusedAtFirst() {
        FlowNest x = new FlowNest();
        Refused.size(x, 0, 49);
        Check.due("vertices", x.told(0), 0);
        Check.due("entry", x.told(4), FlowNest.NONE);
        Check.due("begin", x.begin(3), 0);
    }

    /** "How many there were": none at first. */
    private static void promise02NoneThereWere() {
        Check.due("first begin(1)", new FlowNest().begin(1), 0);
        Check.due("first begin(30)", new FlowNest().begin(30), 0);
        Check.due("first begin(48)", new FlowNest().begin(48), 0);
    }

    /** "How many there were", by the last begin, be it more, fewer or as many. */
    private static void promise02HowManyThereWere() {
        FlowNest x = new FlowNest();
        x.begin(5);
        Check.due("after 5", x.begin(48), 5);
        Check.due("after 48", x.begin(48), 48);
        Check.due("after 48 again", x.begin(1), 48);
        Check.due("after 1", x.begin(1), 1);
        Check.due("after 1 again", x.begin(7), 1);
    }

    /** "Without links." */
    private static void promise02NoLinks() {
        FlowNest x = Graphs.threeNested();
        x.begin(6);
        Check.due("links", x.told(1), 0);
        Check.due("reached", x.told(2), 1);
        Check.due("ending", x.told(3), 1);
        Check.due("link(0, 1) is new", x.link(0, 1), 1);
        Check.due("links then", x.told(1), 1);
    }

    /** "Without links": also where they had been out of reach of a smaller begin. */
    private static void promise02NoLinksAfterFewer() {
        FlowNest x = Graphs.row(48);
        x.begin(2);
        x.begin(48);
        Check.due("links", x.told(1), 0);
        Check.due("reached", x.told(2), 1);
        Check.due("ending", x.told(3), 1);
        Check.due("link(46, 47) is new", x.link(46, 47), 1);
        Check.due("link(40, 41) is new", x.link(40, 41), 1);
    }

    /** "The entry is 0, the exit n - 1": whatever they were placed on before. */
    private static void promise02EntryAndExit() {
        FlowNest x = Graphs.linked(48);
        x.place(30, false);
        x.place(31, true);
        x.begin(48);
        Check.due("entry of 48", x.told(4), 0);
        Check.due("exit of 48", x.told(5), 47);
        x.place(40, false);
        x.place(40, true);
        x.begin(2);
        Check.due("entry of 2", x.told(4), 0);
        Check.due("exit of 2", x.told(5), 1);
        x.begin(10);
        Check.due("exit of 10", x.told(5), 9);
    }

    /** "So many vertices": the others are not there any more. */
    private static void promise02OthersAreGone() {
        FlowNest x = Graphs.row(48);
        x.begin(2);
        Class<IndexOutOfBoundsException> none = IndexOutOfBoundsException.class;
        Check.dueThrow("isReached(2)", none, () -> x.isReached(2, false) ? 1 : 0);
        Check.dueThrow("link(0, 47)", none, () -> x.link(0, 47));
        Check.dueThrow("place(47)", none, () -> x.place(47, true));
        Check.due("isReached(1)", x.isReached(1, false), false);
    }

    /** What was answered of the vertices before must not be answered of the new ones. */
    private static void promise02AnswersOfBefore() {
        FlowNest x = Graphs.threeNested();
        Graphs.answers(x);
        x.begin(6);
        Check.dueSame("six anew", x, Graphs.linked(6));
        FlowNest y = Graphs.branchInLoop();
        y.loops();
        y.begin(3);
        Check.dueSame("three anew", y, Graphs.linked(3));
    }
}
