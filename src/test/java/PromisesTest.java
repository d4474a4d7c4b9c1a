/** Each promise on graphs worked out by hand: ordinary inputs, the edges that are named, wrong inputs. */
public final class PromisesTest {

    private static final Class<IndexOutOfBoundsException> NO_VERTEX = IndexOutOfBoundsException.class;
    private static final Class<IllegalArgumentException> NO_SIZE = IllegalArgumentException.class;
    private static final int NONE = -1;

    private PromisesTest() {
    }

    public static void main(String[] args) {
        promise1NewObject();
        promise2Begin();
        promise3Link();
        promise4Place();
        promise5IsReached();
        promise6Dominator();
        promise7Dominates();
        promise8Level();
        promise9Frontier();
        promise10Spread();
        promise11Controls();
        promise12IsBack();
        promise13Loop();
        promise14Loops();
        promise15Depth();
        promise16Header();
        promise17IsReducible();
        promise18Order();
        promise19Told();
        wrongVerticesThrow();
        whatThrowsChangesNothing();
        answersFollowChanges();
        Check.end();
    }

    /**
     * 0 to 1, which branches to 2 and 3; these meet in 4, which goes back to 1 or on to 5; 5 goes to
     * itself or on to 6, the exit. 7 is not reached, but leads into the loop.
     */
    private static FlowNest branchInLoop() {
        FlowNest x = linked(8, 0, 1, 1, 2, 1, 3, 2, 4, 3, 4, 4, 1, 4, 5, 5, 5, 5, 6, 7, 4);
        x.place(6, true);
        return x;
    }

    /** 0 to 5 in a row, with links from 3 to 2, from 4 to 1, and from 4 to 0. */
    private static FlowNest threeNested() {
        return linked(6, 0, 1, 1, 2, 2, 3, 3, 4, 4, 5, 3, 2, 4, 1, 4, 0);
    }

    private static FlowNest linked(int n, int... ends) {
        FlowNest x = new FlowNest();
        x.begin(n);
        for (int i = 0; i < ends.length; i += 2) {
            x.link(ends[i], ends[i + 1]);
        }
        return x;
    }

    private static long set(int... vertices) {
        long set = 0;
        for (int v : vertices) {
            set |= 1L << v;
        }
        return set;
    }

    private interface OfVertex {
        long answer(int v);
    }

    /** What a call answers for the vertices 0, 1, 2 and so on. */
    private static void dueEach(String what, OfVertex call, long... want) {
        for (int v = 0; v < want.length; v++) {
            Check.due(what + " of " + v, call.answer(v), want[v]);
        }
    }

    private static void promise1NewObject() {
        FlowNest x = new FlowNest();
        Check.due("new: told(0)", x.told(0), 0);
        Check.due("new: told(1)", x.told(1), 0);
        Check.due("new: told(2)", x.told(2), 0);
        Check.due("new: told(3)", x.told(3), 0);
        Check.due("new: told(4)", x.told(4), NONE);
        Check.due("new: told(5)", x.told(5), NONE);
        Check.due("new: spread(-1)", x.spread(-1L), 0);
        Check.due("new: loops", x.loops(), 0);
        Check.due("new: isReducible", x.isReducible(), true);
        Check.due("NONE", FlowNest.NONE, NONE);
    }

    private static void promise2Begin() {
        FlowNest x = new FlowNest();
        Check.dueThrow("begin(0)", NO_SIZE, () -> x.begin(0));
        Check.dueThrow("begin(-1)", NO_SIZE, () -> x.begin(-1));
        Check.dueThrow("begin(49)", NO_SIZE, () -> x.begin(49));
        Check.dueThrow("begin(least)", NO_SIZE, () -> x.begin(Integer.MIN_VALUE));
        Check.dueThrow("begin(most)", NO_SIZE, () -> x.begin(Integer.MAX_VALUE));
        Check.due("begin(1) first", x.begin(1), 0);
        Check.due("begin(48) after 1", x.begin(48), 1);
        x.link(0, 47);
        x.link(47, 0);
        x.place(3, false);
        x.place(4, true);
        Check.due("begin(48) again", x.begin(48), 48);
        Check.due("entry after begin", x.told(4), 0);
        Check.due("exit after begin", x.told(5), 47);
        Check.due("links after begin", x.told(1), 0);
        Check.due("reached after begin", x.told(2), 1);
        Check.due("ending after begin", x.told(3), 1);
        Check.due("loops after begin", x.loops(), 0);
        Check.due("link after begin", x.link(0, 47), 1);
        Check.due("begin(2) after 48", x.begin(2), 48);
        Check.due("exit of two", x.told(5), 1);
        Check.dueThrow("isReached(2) of two", NO_VERTEX, () -> x.isReached(2, false) ? 1 : 0);
    }

    private static void promise3Link() {
        FlowNest x = linked(48);
        Check.due("link there", x.link(0, 1), 1);
        Check.due("link the other way", x.link(1, 0), 1);
        Check.due("link away", x.link(0, 1), 0);
        Check.due("the other way stays", x.told(1), 1);
        Check.due("link there again", x.link(0, 1), 1);
        Check.due("link to itself", x.link(47, 47), 1);
        Check.due("link to itself away", x.link(47, 47), 0);
        Check.due("link to the last", x.link(0, 47), 1);
        Check.due("all links", x.told(1), 3);
    }

    private static void promise4Place() {
        FlowNest x = linked(4, 0, 1, 1, 2, 2, 3);
        Check.due("entry was", x.place(1, false), 0);
        Check.due("entry was 1", x.place(1, false), 1);
        Check.due("exit was", x.place(2, true), 3);
        Check.due("exit was 2", x.place(0, true), 2);
        Check.due("entry is", x.told(4), 1);
        Check.due("exit is", x.told(5), 0);
        Check.due("0 is no more reached", x.isReached(0, false), false);
        Check.due("3 is reached", x.isReached(3, false), true);
        Check.due("0 ends", x.isReached(0, true), true);
        Check.due("1 does not end", x.isReached(1, true), false);
        Check.due("entry and exit may be one", x.place(0, false), 1);
        Check.due("0 is entry and exit", x.told(4) == 0 && x.told(5) == 0, true);
    }

    private static void promise5IsReached() {
        FlowNest x = linked(5, 0, 1, 1, 2, 3, 1, 3, 4);
        dueEach("reached", v -> x.isReached(v, false) ? 1 : 0, 1, 1, 1, 0, 0);
        dueEach("ends", v -> x.isReached(v, true) ? 1 : 0, 0, 0, 0, 1, 1);
    }

    private static void promise6Dominator() {
        FlowNest x = branchInLoop();
        dueEach("dominator", v -> x.dominator(v, false), NONE, 0, 1, 1, 1, 4, 5, NONE);
        dueEach("cover", v -> x.dominator(v, true), 1, 4, 4, 4, 5, 6, NONE, 4);
        FlowNest apart = linked(3, 0, 1, 1, 0);
        dueEach("cover where little ends", v -> apart.dominator(v, true), NONE, NONE, NONE);
        dueEach("dominator behind the entry", v -> apart.dominator(v, false), NONE, 0, NONE);
    }

    private static void promise7Dominates() {
        FlowNest x = branchInLoop();
        dueEach("1 dominates", v -> x.dominates(1, v, false) ? 1 : 0, 0, 1, 1, 1, 1, 1, 1, 0);
        dueEach("2 dominates", v -> x.dominates(2, v, false) ? 1 : 0, 0, 0, 1, 0, 0, 0, 0, 0);
        dueEach("7 dominates", v -> x.dominates(7, v, false) ? 1 : 0, 0, 0, 0, 0, 0, 0, 0, 0);
        dueEach("4 covers", v -> x.dominates(4, v, true) ? 1 : 0, 1, 1, 1, 1, 1, 0, 0, 1);
        dueEach("7 covers", v -> x.dominates(7, v, true) ? 1 : 0, 0, 0, 0, 0, 0, 0, 0, 1);
        FlowNest apart = linked(3, 0, 1);
        Check.due("not ending covers itself", apart.dominates(0, 0, true), false);
        Check.due("not ending covers another", apart.dominates(1, 0, true), false);
    }

    private static void promise8Level() {
        FlowNest x = branchInLoop();
        dueEach("level", x::level, 0, 1, 2, 2, 2, 3, 4, NONE);
        FlowNest row = new FlowNest();
        row.begin(48);
        for (int v = 0; v < 47; v++) {
            row.link(v, v + 1);
        }
        Check.due("level at the end of a row", row.level(47), 47);
    }

    private static void promise9Frontier() {
        FlowNest x = branchInLoop();
        dueEach("frontier", x::frontier, 0, set(1), set(4), set(4), set(1), set(5), 0, 0);
        FlowNest ring = linked(2, 0, 1, 1, 0);
        dueEach("frontier in a ring by the entry", ring::frontier, set(0), set(0));
    }

    private static void promise10Spread() {
        FlowNest x = branchInLoop();
        Check.due("spread of 2", x.spread(set(2)), set(1, 4));
        Check.due("spread of 2, 5", x.spread(set(2, 5)), set(1, 4, 5));
        Check.due("spread of 0", x.spread(set(0)), 0);
        Check.due("spread of one not reached", x.spread(set(7)), 0);
        Check.due("spread of none", x.spread(0L), 0);
        Check.due("spread of all bits", x.spread(-1L), set(1, 4, 5));
        Check.due("spread of bits of no vertex", x.spread(-1L << 8), 0);
        Check.due("spread of bits of no vertex too", x.spread(set(2, 8, 62, 63)), set(1, 4));
    }

    private static void promise11Controls() {
        FlowNest x = branchInLoop();
        dueEach("controls", x::controls, 0, set(2, 3), 0, 0, set(1, 4), set(5), 0, 0);
        FlowNest lost = linked(4, 0, 1, 0, 2, 1, 3, 2, 2);
        dueEach("controls where a branch does not end", lost::controls, 0, 0, 0, 0);
        FlowNest unreached = linked(4, 0, 3, 1, 2, 1, 3, 2, 3);
        Check.due("controls of one not reached", unreached.controls(1), set(2));
    }

    private static void promise12IsBack() {
        FlowNest x = branchInLoop();
        Check.due("4 to 1", x.isBack(4, 1), true);
        Check.due("5 to itself", x.isBack(5, 5), true);
        Check.due("1 to 2", x.isBack(1, 2), false);
        Check.due("no link from 4 to 0", x.isBack(4, 0), false);
        Check.due("no link from 6 to itself", x.isBack(6, 6), false);
        x.link(7, 7);
        Check.due("not reached to itself", x.isBack(7, 7), false);
        FlowNest cross = linked(3, 0, 1, 0, 2, 1, 2, 2, 1);
        Check.due("to one that does not dominate", cross.isBack(2, 1), false);
    }

    private static void promise13Loop() {
        FlowNest x = branchInLoop();
        dueEach("loop", x::loop, 0, set(1, 2, 3, 4), 0, 0, 0, set(5), 0, 0);
        FlowNest y = threeNested();
        dueEach("loop nested", y::loop, set(0, 1, 2, 3, 4), set(1, 2, 3, 4), set(2, 3), 0, 0, 0);
        FlowNest shared = linked(4, 0, 1, 1, 2, 1, 3, 2, 1, 3, 1);
        Check.due("two links back, one loop", shared.loop(1), set(1, 2, 3));
    }

    private static void promise14Loops() {
        Check.due("loops", branchInLoop().loops(), 2);
        Check.due("loops nested", threeNested().loops(), 3);
        Check.due("two links back, loops", linked(4, 0, 1, 1, 2, 1, 3, 2, 1, 3, 1).loops(), 1);
        Check.due("loops not reached", linked(3, 1, 2, 2, 1, 1, 1).loops(), 0);
        Check.due("a ring with two ways in", linked(3, 0, 1, 0, 2, 1, 2, 2, 1).loops(), 0);
    }

    private static void promise15Depth() {
        dueEach("depth", branchInLoop()::depth, 0, 1, 1, 1, 1, 1, 0, 0);
        dueEach("depth nested", threeNested()::depth, 1, 2, 3, 3, 2, 0);
    }

    private static void promise16Header() {
        FlowNest x = branchInLoop();
        dueEach("header", v -> x.header(v, false), NONE, 1, 1, 1, 1, 5, NONE, NONE);
        dueEach("outer header", v -> x.header(v, true), NONE, NONE, 1, 1, 1, NONE, NONE, NONE);
        FlowNest y = threeNested();
        dueEach("header nested", v -> y.header(v, false), 0, 1, 2, 2, 1, NONE);
        dueEach("outer header nested", v -> y.header(v, true), NONE, 0, 1, 2, 1, NONE);
    }

    private static void promise17IsReducible() {
        Check.due("branch in loop", branchInLoop().isReducible(), true);
        Check.due("nested", threeNested().isReducible(), true);
        Check.due("a link to itself", linked(1, 0, 0).isReducible(), true);
        FlowNest x = linked(3, 0, 1, 0, 2, 1, 2, 2, 1);
        Check.due("a ring with two ways in", x.isReducible(), false);
        x.link(0, 2);
        Check.due("a ring with one way in", x.isReducible(), true);
        Check.due("a ring not reached", linked(4, 1, 2, 2, 3, 3, 1).isReducible(), true);
        FlowNest y = linked(5, 0, 1, 1, 2, 1, 3, 2, 3, 3, 4, 4, 2);
        Check.due("a longer ring with two ways in", y.isReducible(), false);
    }

    private static void promise18Order() {
        FlowNest x = branchInLoop();
        dueEach("entered", v -> x.order(v, false), 0, 1, 2, 6, 3, 4, 5, NONE);
        dueEach("left", v -> x.order(v, true), 6, 5, 3, 4, 2, 1, 0, NONE);
        FlowNest least = linked(4, 2, 3, 2, 1, 2, 0, 1, 3);
        least.place(2, false);
        dueEach("entered, the least first", v -> least.order(v, false), 1, 2, 0, 3);
        dueEach("left, the least first", v -> least.order(v, true), 0, 2, 3, 1);
    }

    private static void promise19Told() {
        FlowNest x = branchInLoop();
        dueEach("told", v -> x.told(v), 8, 10, 7, 8, 0, 6, NONE, NONE);
        Check.due("told(-1)", x.told(-1), NONE);
        Check.due("told(most)", x.told(Integer.MAX_VALUE), NONE);
        Check.due("told(least)", x.told(Integer.MIN_VALUE), NONE);
        FlowNest y = linked(3, 0, 1, 1, 0);
        Check.due("reached of three", y.told(2), 2);
        Check.due("ending of three", y.told(3), 1);
    }

    private static void wrongVerticesThrow() {
        FlowNest empty = new FlowNest();
        dueNoVertex("without vertices", empty, 0, 0);
        FlowNest x = threeNested();
        for (int wrong : new int[] {-1, 6, 48, 64, Integer.MIN_VALUE, Integer.MAX_VALUE}) {
            dueNoVertex("of six", x, wrong, 0);
        }
    }

    private static void dueNoVertex(String where, FlowNest x, int wrong, int other) {
        String end = "(" + wrong + ") " + where;
        for (boolean flag : new boolean[] {false, true}) {
            Check.dueThrow("place" + end, NO_VERTEX, () -> x.place(wrong, flag));
            Check.dueThrow("isReached" + end, NO_VERTEX, () -> x.isReached(wrong, flag) ? 1 : 0);
            Check.dueThrow("dominator" + end, NO_VERTEX, () -> x.dominator(wrong, flag));
            Check.dueThrow("dominates u" + end, NO_VERTEX, () -> x.dominates(wrong, other, flag) ? 1 : 0);
            Check.dueThrow("dominates v" + end, NO_VERTEX, () -> x.dominates(other, wrong, flag) ? 1 : 0);
            Check.dueThrow("header" + end, NO_VERTEX, () -> x.header(wrong, flag));
            Check.dueThrow("order" + end, NO_VERTEX, () -> x.order(wrong, flag));
        }
        Check.dueThrow("link from" + end, NO_VERTEX, () -> x.link(wrong, other));
        Check.dueThrow("link to" + end, NO_VERTEX, () -> x.link(other, wrong));
        Check.dueThrow("level" + end, NO_VERTEX, () -> x.level(wrong));
        Check.dueThrow("frontier" + end, NO_VERTEX, () -> x.frontier(wrong));
        Check.dueThrow("controls" + end, NO_VERTEX, () -> x.controls(wrong));
        Check.dueThrow("isBack from" + end, NO_VERTEX, () -> x.isBack(wrong, other) ? 1 : 0);
        Check.dueThrow("isBack to" + end, NO_VERTEX, () -> x.isBack(other, wrong) ? 1 : 0);
        Check.dueThrow("loop" + end, NO_VERTEX, () -> x.loop(wrong));
        Check.dueThrow("depth" + end, NO_VERTEX, () -> x.depth(wrong));
    }

    private static void whatThrowsChangesNothing() {
        FlowNest x = branchInLoop();
        Check.dueThrow("begin(0) later", NO_SIZE, () -> x.begin(0));
        Check.dueThrow("begin(49) later", NO_SIZE, () -> x.begin(49));
        dueNoVertex("before a look", x, 8, 0);
        dueNoVertex("before a look", x, -1, 4);
        dueEach("told after throws", v -> x.told(v), 8, 10, 7, 8, 0, 6, NONE);
        dueEach("loop after throws", x::loop, 0, set(1, 2, 3, 4), 0, 0, 0, set(5), 0, 0);
        dueEach("cover after throws", v -> x.dominator(v, true), 1, 4, 4, 4, 5, 6, NONE, 4);
    }

    /** What was answered before a change must not be answered after it. */
    private static void answersFollowChanges() {
        FlowNest x = threeNested();
        dueEach("depth first", x::depth, 1, 2, 3, 3, 2, 0);
        x.link(4, 1);
        dueEach("depth without 4 to 1", x::depth, 1, 1, 2, 2, 1, 0);
        x.link(4, 1);
        dueEach("depth with it again", x::depth, 1, 2, 3, 3, 2, 0);
        x.place(3, false);
        dueEach("depth from 3", x::depth, 1, 1, 1, 1, 1, 0);
        dueEach("dominator from 3", v -> x.dominator(v, false), 4, 4, 3, NONE, 3, 4);
        x.place(2, true);
        dueEach("cover to 2", v -> x.dominator(v, true), 1, 2, NONE, 2, 1, NONE);
        dueEach("depth with another exit", x::depth, 1, 1, 1, 1, 1, 0);
        x.begin(6);
        dueEach("depth after begin", x::depth, 0, 0, 0, 0, 0, 0);
        dueEach("entered after begin", v -> x.order(v, false), 0, NONE, NONE, NONE, NONE, NONE);
    }
}
