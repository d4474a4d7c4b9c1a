/** Promise 14: loops. */
public final class Promise14LoopsTest {

    private Promise14LoopsTest() {
    }

    public static void main(String[] args) {
        Check.promise("14", Promise14LoopsTest.class);
    }

    /** "How many loops there are", nested or apart. */
    private static void promise14Loops() {
        Check.due("branch in loop", Graphs.branchInLoop().loops(), 2);
        Check.due("nested", Graphs.threeNested().loops(), 3);
        Check.due("apart", Graphs.linked(6, 0, 1, 1, 2, 2, 1, 2, 3, 3, 4, 4, 3, 4, 5).loops(), 2);
    }

    /** None, without vertices. */
    private static void promise14NoVertices() {
        Check.due("loops", new FlowNest().loops(), 0);
    }

    /** None, without links. */
    private static void promise14NoLinks() {
        Check.due("of 1", Graphs.linked(1).loops(), 0);
        Check.due("of 48", Graphs.linked(48).loops(), 0);
    }

    /** None, where no link goes back. */
    private static void promise14NoneGoesBack() {
        Check.due("row", Graphs.row(48).loops(), 0);
        Check.due("two ways in", Graphs.twoWaysIn().loops(), 0);
    }

    /** One, of one vertex. */
    private static void promise14OneVertex() {
        Check.due("loops", Graphs.linked(1, 0, 0).loops(), 1);
    }

    /** A loop is told by its header, however many links go back to it. */
    private static void promise14OneHeader() {
        FlowNest x = Graphs.linked(4, 0, 1, 1, 2, 1, 3, 2, 1, 3, 1, 1, 1);
        Check.due("three links back", x.loops(), 1);
        x.link(2, 1);
        x.link(1, 1);
        Check.due("one link back", x.loops(), 1);
        x.link(3, 1);
        Check.due("no link back", x.loops(), 0);
    }

    /** Loops of what is not reached are none. */
    private static void promise14NotReached() {
        FlowNest x = Graphs.linked(4, 1, 2, 2, 1, 1, 1, 3, 3);
        Check.due("loops", x.loops(), 0);
        x.link(0, 1);
        Check.due("loops with 1 and 2 reached", x.loops(), 1);
        x.place(3, false);
        Check.due("loops from 3", x.loops(), 1);
    }

    /** As many as there are vertices, nested or apart. */
    private static void promise14Most() {
        Check.due("nested", Graphs.mostNested().loops(), 48);
        FlowNest x = Graphs.row(48);
        for (int v = 0; v < 48; v++) {
            x.link(v, v);
        }
        Check.due("apart", x.loops(), 48);
    }

    /** All links that there can be. */
    private static void promise14Full() {
        Check.due("loops", Graphs.full().loops(), 16);
    }

    /** None are left of what was there before begin. */
    private static void promise14AfterBegin() {
        FlowNest x = Graphs.mostNested();
        Check.due("before", x.loops(), 48);
        x.begin(48);
        Check.due("after", x.loops(), 0);
    }
}
