import java.util.ArrayList;
import java.util.List;

/** Graphs that many tests use, and all that one can be asked. */
final class Graphs {

    private static final boolean[] BOTH = {false, true};

    private Graphs() {
    }

    static FlowNest linked(int n, int... ends) {
        FlowNest x = new FlowNest();
        x.begin(n);
        for (int i = 0; i < ends.length; i += 2) {
            x.link(ends[i], ends[i + 1]);
        }
        return x;
    }

    static long set(int... vertices) {
        long set = 0;
        for (int v : vertices) {
            set |= 1L << v;
        }
        return set;
    }

    /** All vertices from the first to the last. */
    static long span(int first, int last) {
        long set = 0;
        for (int v = first; v <= last; v++) {
            set |= 1L << v;
        }
        return set;
    }

    /**
     * 0 to 1, which branches to 2 and 3; these meet in 4, which goes back to 1 or on to 5; 5 goes to
     * itself or on to 6, the exit. 7 is not reached, but leads into the loop.
     */
    static FlowNest branchInLoop() {
        FlowNest x = linked(8, 0, 1, 1, 2, 1, 3, 2, 4, 3, 4, 4, 1, 4, 5, 5, 5, 5, 6, 7, 4);
        x.place(6, true);
        return x;
    }

    /** 0 to 5 in a row, with links from 3 to 2, from 4 to 1, and from 4 to 0. */
    static FlowNest threeNested() {
        return linked(6, 0, 1, 1, 2, 2, 3, 3, 4, 4, 5, 3, 2, 4, 1, 4, 0);
    }

    /** 0 branches to 1 and 2, which lead to one another: neither dominates the other. */
    static FlowNest twoWaysIn() {
        return linked(3, 0, 1, 0, 2, 1, 2, 2, 1);
    }

    /** From 0 to n - 1, each to the next one. */
    static FlowNest row(int n) {
        FlowNest x = linked(n);
        for (int v = 0; v + 1 < n; v++) {
            x.link(v, v + 1);
        }
        return x;
    }

    /** A row of all 48 whose last one leads to all: the loop of each v is v and all after it. */
    static FlowNest mostNested() {
        FlowNest x = row(48);
        for (int v = 0; v < 48; v++) {
            x.link(47, v);
        }
        return x;
    }

    /**
     * A row of all 48, each but the first two with a link to the one before, and 0 with one to the last:
     * so there are two ways to each of the others, and none of these dominates another.
     */
    static FlowNest bothWaysRound() {
        FlowNest x = row(48);
        for (int v = 2; v < 48; v++) {
            x.link(v, v - 1);
        }
        x.link(0, 47);
        return x;
    }

    /** All links that there can be of 16 vertices, which leaves half of the 512 calls for questions. */
    static FlowNest full() {
        FlowNest x = linked(16);
        for (int i = 0; i < 256; i++) {
            x.link(i / 16, i % 16);
        }
        return x;
    }

    /** Each question that an object can be asked, with its answer. */
    static String[] answers(FlowNest x) {
        List<String> all = new ArrayList<>();
        int n = x.told(0);
        for (int what = 0; what <= 5; what++) {
            all.add("told(" + what + ") " + x.told(what));
        }
        all.add("loops() " + x.loops());
        all.add("isReducible() " + x.isReducible());
        all.add("spread(-1) " + x.spread(-1L));
        for (int v = 0; v < n; v++) {
            addAnswersOf(v, x, all);
            for (int u = 0; u < n; u++) {
                all.add("isBack(" + u + ", " + v + ") " + x.isBack(u, v));
                all.add("dominates(" + u + ", " + v + ", false) " + x.dominates(u, v, false));
                all.add("dominates(" + u + ", " + v + ", true) " + x.dominates(u, v, true));
            }
        }
        return all.toArray(new String[0]);
    }

    private static void addAnswersOf(int v, FlowNest x, List<String> all) {
        for (boolean flag : BOTH) {
            String arguments = "(" + v + ", " + flag + ") ";
            all.add("isReached" + arguments + x.isReached(v, flag));
            all.add("dominator" + arguments + x.dominator(v, flag));
            all.add("header" + arguments + x.header(v, flag));
            all.add("order" + arguments + x.order(v, flag));
        }
        all.add("level(" + v + ") " + x.level(v));
        all.add("frontier(" + v + ") " + x.frontier(v));
        all.add("controls(" + v + ") " + x.controls(v));
        all.add("loop(" + v + ") " + x.loop(v));
        all.add("depth(" + v + ") " + x.depth(v));
    }
}
