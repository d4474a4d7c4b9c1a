/** Promise 17: isReducible. */
public final class Promise17IsReducibleTest {

    private Promise17IsReducibleTest() {
    }

    public static void main(String[] args) {
        Check.promise("17", Promise17IsReducibleTest.class);
    }

    /** "REDUCIBLE, if there is no way from a vertex to itself of links that do not go back." */
    private static void promise17Reducible() {
        Check.due("branch in loop", Graphs.branchInLoop().isReducible(), true);
        Check.due("nested", Graphs.threeNested().isReducible(), true);
        Check.due("most nested", Graphs.mostNested().isReducible(), true);
    }

    /** A ring with two ways in is such a way. */
    private static void promise17TwoWaysIn() {
        FlowNest x = Graphs.twoWaysIn();
        Check.due("two ways in", x.isReducible(), false);
        x.link(0, 2);
        Check.due("one way in", x.isReducible(), true);
        x.link(0, 2);
        Check.due("two ways in again", x.isReducible(), false);
        x.link(2, 1);
        Check.due("no ring", x.isReducible(), true);
    }

    /** A ring with two ways in, in a loop, or behind one, or of more than two vertices. */
    private static void promise17TwoWaysInElsewhere() {
        FlowNest within = Graphs.linked(5, 0, 1, 1, 2, 1, 3, 2, 3, 3, 2, 3, 1, 3, 4);
        Check.due("in a loop", within.isReducible(), false);
        FlowNest longer = Graphs.linked(5, 0, 1, 1, 2, 1, 3, 2, 3, 3, 4, 4, 2);
        Check.due("of three", longer.isReducible(), false);
    }

    /** The longest ring with two ways in, up and down. */
    private static void promise17LongestRing() {
        FlowNest up = Graphs.row(48);
        up.link(47, 1);
        Check.due("one way in", up.isReducible(), true);
        up.link(0, 24);
        Check.due("two ways in", up.isReducible(), false);
        FlowNest down = Graphs.linked(48, 0, 47, 0, 24, 1, 47);
        for (int v = 47; v > 1; v--) {
            down.link(v, v - 1);
        }
        Check.due("two ways in, down", down.isReducible(), false);
        down.link(0, 24);
        Check.due("one way in, down", down.isReducible(), true);
    }

    /** A ring with two ways in that 0 is on, or the last, from each entry beside it. */
    private static void promise17RingOfFirstAndLast() {
        for (int entry = 1; entry < 47; entry++) {
            FlowNest x = Graphs.linked(48, entry, 0, entry, 47, 0, 47, 47, 0);
            x.place(entry, false);
            Check.due("two ways in from " + entry, x.isReducible(), false);
            x.link(entry, 47);
            Check.due("one way in from " + entry, x.isReducible(), true);
        }
    }

    /** "True without vertices." */
    private static void promise17NoVertices() {
        Check.due("isReducible", new FlowNest().isReducible(), true);
    }

    /** "Of one link or more": a way of none does not count. */
    private static void promise17NoLinks() {
        Check.due("of 1", Graphs.linked(1).isReducible(), true);
        Check.due("of 48", Graphs.linked(48).isReducible(), true);
    }

    /** "Of one link or more": one to itself goes back. */
    private static void promise17LinkToItself() {
        Check.due("alone", Graphs.linked(1, 0, 0).isReducible(), true);
        Check.due("two", Graphs.linked(2, 0, 0, 0, 1, 1, 1).isReducible(), true);
        FlowNest x = Graphs.linked(48);
        for (int v = 0; v < 48; v++) {
            x.link(v, v);
        }
        Check.due("all, reached or not", x.isReducible(), true);
    }

    /** "From a reached vertex": a ring that is not reached does not count. */
    private static void promise17RingNotReached() {
        FlowNest x = Graphs.linked(5, 1, 2, 1, 3, 2, 3, 3, 2, 4, 4);
        Check.due("not reached", x.isReducible(), true);
        x.link(0, 1);
        Check.due("reached", x.isReducible(), false);
        x.place(4, false);
        Check.due("not reached from 4", x.isReducible(), true);
        x.place(2, false);
        Check.due("from 2 on the ring", x.isReducible(), true);
    }

    /** A way in from what is not reached is none. */
    private static void promise17WayInNotReached() {
        FlowNest x = Graphs.linked(4, 0, 1, 1, 2, 2, 1, 3, 2);
        Check.due("isReducible", x.isReducible(), true);
        x.link(0, 3);
        Check.due("isReducible with 3 reached", x.isReducible(), false);
    }

    /** All links that there can be: with three vertices there is a ring with two ways in. */
    private static void promise17Full() {
        Check.due("of 1", Graphs.linked(1, 0, 0).isReducible(), true);
        Check.due("of 2", Graphs.linked(2, 0, 0, 0, 1, 1, 0, 1, 1).isReducible(), true);
        FlowNest three = Graphs.linked(3, 0, 0, 0, 1, 0, 2, 1, 0, 1, 1, 1, 2, 2, 0, 2, 1, 2, 2);
        Check.due("of 3", three.isReducible(), false);
        Check.due("of 16", Graphs.full().isReducible(), false);
    }

    /** After begin there is no ring. */
    private static void promise17AfterBegin() {
        FlowNest x = Graphs.twoWaysIn();
        Check.due("before", x.isReducible(), false);
        x.begin(3);
        Check.due("after", x.isReducible(), true);
    }
}
