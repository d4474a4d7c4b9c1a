/** Promise 10: spread. */
public final class Promise10SpreadTest {

    private Promise10SpreadTest() {
    }

    public static void main(String[] args) {
        Check.promise("10", Promise10SpreadTest.class);
    }

    private static long set(int... vertices) {
        return Graphs.set(vertices);
    }

    /** 0 to all others, and each of these to the next one: that is its frontier. */
    private static FlowNest stepsUp() {
        FlowNest x = Graphs.linked(48);
        for (int v = 1; v < 48; v++) {
            x.link(0, v);
        }
        for (int v = 1; v < 47; v++) {
            x.link(v, v + 1);
        }
        return x;
    }

    /** 0 to all others, and each of these to the one before. */
    private static FlowNest stepsDown() {
        FlowNest x = Graphs.linked(48);
        for (int v = 1; v < 48; v++) {
            x.link(0, v);
        }
        for (int v = 2; v < 48; v++) {
            x.link(v, v - 1);
        }
        return x;
    }

    /** "The frontiers of all reached vertices of the first set." */
    private static void promise10OfTheFirstSet() {
        FlowNest x = Graphs.branchInLoop();
        Check.due("of 5", x.spread(set(5)), set(5));
        Check.due("of 4", x.spread(set(4)), set(1));
        Check.due("of 1, 5", x.spread(set(1, 5)), set(1, 5));
    }

    /** "And of its own." */
    private static void promise10OfItsOwn() {
        FlowNest x = Graphs.branchInLoop();
        Check.due("of 2", x.spread(set(2)), set(1, 4));
        Check.due("of 2, 5", x.spread(set(2, 5)), set(1, 4, 5));
        Check.due("of 2, 3", x.spread(set(2, 3)), set(1, 4));
    }

    /** "And of its own": through as many steps as there can be, up and down. */
    private static void promise10MostSteps() {
        Check.due("up from 1", stepsUp().spread(set(1)), Graphs.span(2, 47));
        Check.due("up from 31", stepsUp().spread(set(31)), Graphs.span(32, 47));
        Check.due("down from 47", stepsDown().spread(set(47)), Graphs.span(1, 46));
        Check.due("down from 32", stepsDown().spread(set(32)), Graphs.span(1, 31));
        Check.due("up from 47", stepsUp().spread(set(47)), 0);
    }

    /** "And of its own": round a ring, whichever of it is given; 0 is on it, and 47 is the entry. */
    private static void promise10RoundARing() {
        FlowNest x = Graphs.linked(48, 46, 0);
        x.place(47, false);
        for (int v = 0; v < 47; v++) {
            x.link(47, v);
        }
        for (int v = 0; v < 46; v++) {
            x.link(v, v + 1);
        }
        for (int v = 0; v < 47; v++) {
            Check.due("from " + v, x.spread(1L << v), Graphs.span(0, 46));
        }
        Check.due("from the entry", x.spread(1L << 47), 0);
    }

    /** "The least set": a vertex of the first set that is in no frontier is not in it. */
    private static void promise10Least() {
        FlowNest x = Graphs.branchInLoop();
        Check.due("of 0", x.spread(set(0)), 0);
        Check.due("of 6", x.spread(set(6)), 0);
        Check.due("of 0, 2, 6", x.spread(set(0, 2, 6)), set(1, 4));
        Check.due("up from 1 and 40", stepsUp().spread(set(1, 40)), Graphs.span(2, 47));
    }

    /** The empty set. */
    private static void promise10EmptySet() {
        Check.due("branch in loop", Graphs.branchInLoop().spread(0L), 0);
        Check.due("nested", Graphs.mostNested().spread(0L), 0);
    }

    /** The full set. */
    private static void promise10FullSet() {
        Check.due("branch in loop", Graphs.branchInLoop().spread(Graphs.span(0, 7)), set(1, 4, 5));
        Check.due("nested", Graphs.mostNested().spread(Graphs.span(0, 47)), Graphs.span(0, 47));
        Check.due("steps up", stepsUp().spread(Graphs.span(0, 47)), Graphs.span(2, 47));
    }

    /** "(Bits of no vertex do not count)": from n on, the sign's too. */
    private static void promise10BitsOfNoVertex() {
        FlowNest x = Graphs.branchInLoop();
        for (int bit = 8; bit < 64; bit++) {
            Check.due("bit " + bit, x.spread(1L << bit), 0);
            Check.due("2 and bit " + bit, x.spread(set(2, bit)), set(1, 4));
        }
        Check.due("all of them", x.spread(-1L << 8), 0);
        Check.due("all bits", x.spread(-1L), set(1, 4, 5));
        Check.due("most negative", x.spread(Long.MIN_VALUE), 0);
        Check.due("largest", x.spread(Long.MAX_VALUE), set(1, 4, 5));
    }

    /** "(Bits of no vertex do not count)": with all 48 vertices too. */
    private static void promise10BitsBeyond48() {
        FlowNest x = Graphs.mostNested();
        for (int bit = 48; bit < 64; bit++) {
            Check.due("bit " + bit, x.spread(1L << bit), 0);
            Check.due("0 and bit " + bit, x.spread(set(0, bit)), set(0));
        }
        Check.due("all of them", x.spread(-1L << 48), 0);
        Check.due("all bits", x.spread(-1L), Graphs.span(0, 47));
    }

    /** "(Bits of no vertex do not count)": of vertices that were there before neither. */
    private static void promise10BitsOfVerticesBefore() {
        FlowNest x = Graphs.mostNested();
        x.spread(-1L);
        x.begin(2);
        x.link(0, 1);
        x.link(1, 0);
        Check.due("those gone", x.spread(-1L << 2), 0);
        Check.due("all bits", x.spread(-1L), set(0));
    }

    /** "(Bits of no vertex do not count)": without vertices none does. */
    private static void promise10NoVertices() {
        FlowNest x = new FlowNest();
        Check.due("all bits", x.spread(-1L), 0);
        Check.due("bit 0", x.spread(1L), 0);
        Check.due("none", x.spread(0L), 0);
        Check.due("still no vertices", x.told(0), 0);
    }

    /** "All reached vertices of the first set": others have none. */
    private static void promise10NotReached() {
        FlowNest x = Graphs.branchInLoop();
        x.link(7, 7);
        Check.due("of 7", x.spread(set(7)), 0);
        Check.due("of 2, 7", x.spread(set(2, 7)), set(1, 4));
        Check.due("of 5, 7", x.spread(set(5, 7)), set(5));
    }

    /** All links that there can be. */
    private static void promise10Full() {
        FlowNest x = Graphs.full();
        Check.due("of 0", x.spread(set(0)), set(0));
        Check.due("of 15", x.spread(set(15)), Graphs.span(0, 15));
        Check.due("of all bits", x.spread(-1L), Graphs.span(0, 15));
        Check.due("of none", x.spread(0L), 0);
    }

    /** "Vertex v by the bit 2^v": the last, given and answered. */
    private static void promise10LastBit() {
        FlowNest x = Graphs.mostNested();
        Check.due("of 47", x.spread(1L << 47), Graphs.span(0, 47));
        Check.due("of 46", x.spread(1L << 46), Graphs.span(0, 46));
        Check.due("of 32", x.spread(1L << 32), Graphs.span(0, 32));
        Check.due("of 31", x.spread(1L << 31), Graphs.span(0, 31));
    }

    /** A set is asked about, not kept. */
    private static void promise10ChangesNothing() {
        FlowNest x = Graphs.branchInLoop();
        x.spread(-1L);
        x.spread(set(2, 63));
        Check.dueSame("after spreads", x, Graphs.branchInLoop());
    }
}
