/** Promise 12: isBack. */
public final class Promise12IsBackTest {

    private Promise12IsBackTest() {
    }

    public static void main(String[] args) {
        Check.promise("12", Promise12IsBackTest.class);
    }

    /** "A link from u to v goes BACK, if v dominates u." */
    private static void promise12GoesBack() {
        FlowNest x = Graphs.threeNested();
        Check.due("3 to 2", x.isBack(3, 2), true);
        Check.due("4 to 1", x.isBack(4, 1), true);
        Check.due("1 to 2", x.isBack(1, 2), false);
        Check.due("branch in loop, 4 to 1", Graphs.branchInLoop().isBack(4, 1), true);
    }

    /** "Whether there is a link": else it does not matter that the one dominates the other. */
    private static void promise12NoLink() {
        FlowNest x = Graphs.threeNested();
        Check.due("5 to 0", x.isBack(5, 0), false);
        Check.due("3 to 1", x.isBack(3, 1), false);
        Check.due("4 to 3, linked the other way", x.isBack(4, 3), false);
        Check.due("3 to itself", x.isBack(3, 3), false);
        Check.due("without links", Graphs.linked(1).isBack(0, 0), false);
    }

    /** "Whether there is a link": not after it was taken away. */
    private static void promise12LinkTakenAway() {
        FlowNest x = Graphs.threeNested();
        Check.due("before", x.isBack(4, 0), true);
        x.link(4, 0);
        Check.due("without it", x.isBack(4, 0), false);
        x.link(4, 0);
        Check.due("with it again", x.isBack(4, 0), true);
    }

    /** "And it goes back": not where there is another way in. */
    private static void promise12DoesNotDominate() {
        FlowNest x = Graphs.twoWaysIn();
        Check.due("1 to 2", x.isBack(1, 2), false);
        Check.due("2 to 1", x.isBack(2, 1), false);
        x.link(0, 2);
        Check.due("2 to 1 without the other way in", x.isBack(2, 1), true);
        Check.due("1 to 2 without the other way in", x.isBack(1, 2), false);
    }

    /** To itself, as each reached vertex dominates itself. */
    private static void promise12ToItself() {
        FlowNest x = Graphs.linked(3, 0, 0, 0, 1, 1, 1);
        Check.due("the entry", x.isBack(0, 0), true);
        Check.due("another", x.isBack(1, 1), true);
    }

    /** To the entry from wherever it is reached. */
    private static void promise12ToTheEntry() {
        FlowNest x = Graphs.mostNested();
        for (int v = 0; v < 48; v++) {
            Check.due("47 to " + v, x.isBack(47, v), true);
        }
        Check.due("46 to 47", x.isBack(46, 47), false);
    }

    /** "Both reached": not from one that is not, be it to itself. */
    private static void promise12NotReached() {
        FlowNest x = Graphs.branchInLoop();
        Check.due("7 to 4", x.isBack(7, 4), false);
        x.link(7, 7);
        x.link(7, 0);
        Check.due("7 to itself", x.isBack(7, 7), false);
        Check.due("7 to the entry", x.isBack(7, 0), false);
        FlowNest y = Graphs.linked(3, 1, 2, 2, 1);
        Check.due("2 to 1, neither reached", y.isBack(2, 1), false);
        y.place(1, false);
        Check.due("2 to 1 from 1", y.isBack(2, 1), true);
    }

    /** All links that there can be: those to the entry go back, and those to itself. */
    private static void promise12Full() {
        FlowNest x = Graphs.full();
        for (int v = 0; v < 16; v++) {
            Check.due(v + " to 0", x.isBack(v, 0), true);
            Check.due(v + " to itself", x.isBack(v, v), true);
            Check.due(v + " to 8", x.isBack(v, 8), v == 8);
            Check.due("8 to " + v, x.isBack(8, v), v == 0 || v == 8);
        }
    }

    /** "IndexOutOfBounds: there is no such vertex": the first. */
    private static void promise12NoSuchFrom() {
        Refused.vertex((x, v) -> x.isBack(v, 0) ? 1 : 0);
    }

    /** "IndexOutOfBounds: there is no such vertex": the second. */
    private static void promise12NoSuchTo() {
        Refused.vertex((x, v) -> x.isBack(0, v) ? 1 : 0);
    }

    private static void promise12NeitherIsThere() {
        Refused.vertex((x, v) -> x.isBack(v, v) ? 1 : 0);
    }

    /** "A call that throws changes nothing." */
    private static void promise12RefusedChangesNothing() {
        Refused.vertexChangesNothing((x, v) -> x.isBack(v, 0) ? 1 : 0);
        Refused.vertexChangesNothing((x, v) -> x.isBack(0, v) ? 1 : 0);
    }
}
