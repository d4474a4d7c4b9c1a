/** Promise 1, and what is said of an object as a whole. */
public final class Promise01NewObjectTest {

    private Promise01NewObjectTest() {
    }

    public static void main(String[] args) {
        Check.promise("01", Promise01NewObjectTest.class);
    }

    /** "No vertices." */
    private static void promise01NoVertices() {
        FlowNest x = new FlowNest();
        Check.due("told(0)", x.told(0), 0);
        Check.due("told(1)", x.told(1), 0);
        Check.due("told(2)", x.told(2), 0);
        Check.due("told(3)", x.told(3), 0);
    }

    /** "No vertices": so there is none that a call could be made with. */
    private static void promise01NoVertexCanBeAsked() {
        FlowNest x = new FlowNest();
        Class<IndexOutOfBoundsException> none = IndexOutOfBoundsException.class;
        Check.dueThrow("link", none, () -> x.link(0, 0));
        Check.dueThrow("place", none, () -> x.place(0, false));
        Check.dueThrow("place exit", none, () -> x.place(0, true));
        Check.dueThrow("isReached", none, () -> x.isReached(0, false) ? 1 : 0);
        Check.dueThrow("isReached ends", none, () -> x.isReached(0, true) ? 1 : 0);
        Check.dueThrow("dominator", none, () -> x.dominator(0, false));
        Check.dueThrow("dominator cover", none, () -> x.dominator(0, true));
        Check.dueThrow("dominates", none, () -> x.dominates(0, 0, false) ? 1 : 0);
        Check.dueThrow("dominates cover", none, () -> x.dominates(0, 0, true) ? 1 : 0);
        Check.dueThrow("level", none, () -> x.level(0));
        Check.dueThrow("frontier", none, () -> x.frontier(0));
        Check.dueThrow("controls", none, () -> x.controls(0));
        Check.dueThrow("isBack", none, () -> x.isBack(0, 0) ? 1 : 0);
        Check.dueThrow("loop", none, () -> x.loop(0));
        Check.dueThrow("depth", none, () -> x.depth(0));
        Check.dueThrow("header", none, () -> x.header(0, false));
        Check.dueThrow("header outer", none, () -> x.header(0, true));
        Check.dueThrow("order", none, () -> x.order(0, false));
        Check.dueThrow("order left", none, () -> x.order(0, true));
    }

    /** Questions to no vertices leave the object as new as it was. */
    private static void promise01AskedFirstBegunLater() {
        FlowNest x = new FlowNest();
        Graphs.answers(x);
        Check.due("begin", x.begin(4), 0);
        Check.dueSame("begun after answers", x, Graphs.linked(4));
    }

    private static void promise01NewObjectDoesNotSeeAnother() {
        FlowNest first = Graphs.threeNested();
        Graphs.answers(first);
        FlowNest second = new FlowNest();
        Check.due("told(0) of the second", second.told(0), 0);
        Check.due("loops of the second", second.loops(), 0);
        second.begin(6);
        second.link(5, 5);
        Check.dueSame("the first", first, Graphs.threeNested());
    }

    /** "An object is used for at most 512 calls after it has been made": and for all of these. */
    private static void promise01All512CallsAnswer() {
        FlowNest x = Graphs.row(48);
        for (int call = 49; call <= 510; call += 3) {
            boolean there = call % 2 == 1;
            Check.due("call " + call + ", link", x.link(47, 0), there ? 1 : 0);
            Check.due("call " + (call + 1) + ", loop", x.loop(0), there ? Graphs.span(0, 47) : 0);
            Check.due("call " + (call + 2) + ", cover", x.dominator(0, true), 1);
        }
        Check.due("call 511, begin", x.begin(2), 48);
        Check.due("call 512, told(0)", x.told(0), 2);
    }

    /** Refused calls are among the 512 too. */
    private static void promise01All512CallsAreRefused() {
        FlowNest x = Graphs.threeNested();
        for (int call = 10; call <= 510; call += 2) {
            Check.dueThrow("link", IndexOutOfBoundsException.class, () -> x.link(0, 6));
            Check.dueThrow("begin", IllegalArgumentException.class, () -> x.begin(49));
        }
        Check.due("call 512, loops", x.loops(), 3);
    }

    private static void promise01None() {
        Check.due("NONE", FlowNest.NONE, -1);
    }
}
