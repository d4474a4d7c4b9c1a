/** Promise 13: loop. */
public final class Promise13LoopTest {

    private Promise13LoopTest() {
    }

    public static void main(String[] args) {
        Check.promise("13", Promise13LoopTest.class);
    }

    private static long set(int... vertices) {
        return Graphs.set(vertices);
    }

    /** "v, and all reached vertices from which there is a way to such a u without v." */
    private static void promise13Loop() {
        FlowNest x = Graphs.branchInLoop();
        Check.dueEach("loop", x::loop, 0, set(1, 2, 3, 4), 0, 0, 0, set(5), 0, 0);
    }

    /** "Without v": what leads to u by v alone is not in the loop. */
    private static void promise13WithoutTheHeader() {
        FlowNest x = Graphs.threeNested();
        Check.dueEach("loop", x::loop, set(0, 1, 2, 3, 4), set(1, 2, 3, 4), set(2, 3), 0, 0, 0);
    }

    /** "The one is within the other", or they "are apart". */
    private static void promise13Apart() {
        FlowNest x = Graphs.linked(6, 0, 1, 1, 2, 2, 1, 2, 3, 3, 4, 4, 3, 4, 5);
        Check.dueEach("loop", x::loop, 0, set(1, 2), 0, set(3, 4), 0, 0);
    }

    /** A link to itself makes a loop of one. */
    private static void promise13LinkToItself() {
        Check.due("the entry alone", Graphs.linked(1, 0, 0).loop(0), set(0));
        FlowNest x = Graphs.linked(3, 0, 1, 1, 1, 1, 2, 2, 0);
        Check.dueEach("within another", x::loop, set(0, 1, 2), set(1), 0);
    }

    /** "To which some go back": two such links make one loop of both. */
    private static void promise13SomeGoBack() {
        FlowNest x = Graphs.linked(5, 0, 1, 1, 2, 1, 3, 2, 1, 3, 1, 3, 4);
        Check.dueEach("loop", x::loop, 0, set(1, 2, 3), 0, 0, 0);
        x.link(1, 1);
        Check.due("with one to itself", x.loop(1), set(1, 2, 3));
        x.link(2, 1);
        Check.due("without the one", x.loop(1), set(1, 3));
    }

    /** "All reached vertices": one that leads in, but is not reached, is not in it. */
    private static void promise13NotReachedIsNotIn() {
        FlowNest x = Graphs.linked(5, 0, 1, 1, 2, 2, 1, 3, 2, 4, 3, 3, 1);
        Check.due("loop 1", x.loop(1), set(1, 2));
        x.link(2, 3);
        Check.due("loop 1 with 3 reached", x.loop(1), set(1, 2, 3));
    }

    /** "Empty when it is none": within a loop, before one, behind one. */
    private static void promise13NoHeader() {
        FlowNest x = Graphs.linked(4, 0, 1, 1, 2, 2, 1, 2, 3);
        Check.due("before", x.loop(0), 0);
        Check.due("within", x.loop(2), 0);
        Check.due("behind", x.loop(3), 0);
        Check.due("without links", Graphs.linked(48).loop(0), 0);
    }

    /** "Empty when it is none": a ring with two ways in has no header. */
    private static void promise13TwoWaysIn() {
        Check.dueEach("loop", Graphs.twoWaysIn()::loop, 0, 0, 0);
        FlowNest within = Graphs.linked(5, 0, 1, 1, 2, 1, 3, 2, 3, 3, 2, 3, 1, 3, 4);
        Check.dueEach("loop around", within::loop, 0, set(1, 2, 3), 0, 0, 0);
    }

    /** "Empty when it is none": a ring that is not reached has none. */
    private static void promise13RingNotReached() {
        FlowNest x = Graphs.linked(4, 1, 2, 2, 1, 3, 3);
        Check.dueEach("loop", x::loop, 0, 0, 0, 0);
        x.place(2, false);
        Check.dueEach("loop from 2", x::loop, 0, 0, set(1, 2), 0);
    }

    /** "Empty when it is none": not any more, once the link back is taken away. */
    private static void promise13LinkBackTakenAway() {
        FlowNest x = Graphs.threeNested();
        Check.due("before", x.loop(2), set(2, 3));
        x.link(3, 2);
        Check.due("without it", x.loop(2), 0);
        Check.due("the outer one", x.loop(1), set(1, 2, 3, 4));
    }

    /** All of the 48, the last bit among them. */
    private static void promise13All48() {
        FlowNest x = Graphs.mostNested();
        for (int v = 0; v < 48; v++) {
            Check.due("loop " + v, x.loop(v), Graphs.span(v, 47));
        }
        FlowNest ring = Graphs.row(48);
        ring.link(47, 0);
        Check.due("loop of a ring", ring.loop(0), Graphs.span(0, 47));
        ring.place(47, false);
        Check.due("loop of a ring from the last", ring.loop(47), Graphs.span(0, 47));
        Check.due("no more from the first", ring.loop(0), 0);
    }

    /** All links that there can be: all are in that of the entry, and each other has its own. */
    private static void promise13Full() {
        FlowNest x = Graphs.full();
        for (int v = 0; v < 16; v++) {
            Check.due("loop " + v, x.loop(v), v == 0 ? Graphs.span(0, 15) : set(v));
        }
    }

    /** "IndexOutOfBounds: there is no such vertex." */
    private static void promise13NoSuchVertex() {
        Refused.vertex(FlowNest::loop);
    }

    /** "A call that throws changes nothing." */
    private static void promise13RefusedChangesNothing() {
        Refused.vertexChangesNothing(FlowNest::loop);
    }
}
