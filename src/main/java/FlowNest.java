import java.util.Arrays;

/** Graphs of control flow: dominators and covers, frontiers, loops, and the orders of going over. */
public final class FlowNest {

    public static final int NONE = -1;

    private static final int MOST = 48;

    private final Side fromEntry = new Side();
    private final Side toExit = new Side();
    private final Nest nest = new Nest();
    private int size = 0;
    private int linkCount = 0;

    public FlowNest() {
    }

    public int begin(int n) throws IllegalArgumentException {
        if (n < 1 || n > MOST) {
            throw new IllegalArgumentException("the number of vertices is not 1 .. 48");
        }
        int before = size;
        size = n;
        linkCount = 0;
        fromEntry.startWith(n, 0);
        toExit.startWith(n, n - 1);
        nest.stale = true;
        return before;
    }

    public int link(int from, int to) throws IndexOutOfBoundsException {
        requireVertex(from);
        requireVertex(to);
        fromEntry.turn(from, to);
        toExit.turn(to, from);
        nest.stale = true;
        int now = has(fromEntry.next[from], to) ? 1 : 0;
        linkCount += now == 1 ? 1 : -1;
        return now;
    }

    public int place(int v, boolean exit) throws IndexOutOfBoundsException {
        requireVertex(v);
        nest.stale = true;
        return exit ? toExit.moveRoot(v) : fromEntry.moveRoot(v);
    }

    public boolean isReached(int v, boolean ends) throws IndexOutOfBoundsException {
        requireVertex(v);
        return has(worked(ends).met, v);
    }

    public int dominator(int v, boolean cover) throws IndexOutOfBoundsException {
        requireVertex(v);
        return worked(cover).closestAbove(v);
    }

    public boolean dominates(int u, int v, boolean cover) throws IndexOutOfBoundsException {
        requireVertex(u);
        requireVertex(v);
        return has(worked(cover).above[v], u);
    }

    public int level(int v) throws IndexOutOfBoundsException {
        requireVertex(v);
        Side side = worked(false);
        return has(side.met, v) ? Long.bitCount(side.above[v]) - 1 : NONE;
    }

    public long frontier(int v) throws IndexOutOfBoundsException {
        requireVertex(v);
        return worked(false).rimOf(v);
    }

    public long spread(long set) {
        return worked(false).rimsFrom(set);
    }

    public long controls(int u) throws IndexOutOfBoundsException {
        requireVertex(u);
        long[] covers = worked(true).above;
        long row = fromEntry.next[u];
        long found = 0;
        for (int w = 0; w < size; w++) {
            if (has(row, w)) {
                found |= covers[w];
            }
        }
        return found & ~(covers[u] & ~bit(u));
    }

    public boolean isBack(int from, int to) throws IndexOutOfBoundsException {
        requireVertex(from);
        requireVertex(to);
        return has(fromEntry.next[from] & worked(false).above[from], to);
    }

    public long loop(int v) throws IndexOutOfBoundsException {
        requireVertex(v);
        return nested().body[v];
    }

    public int loops() {
        return nested().count(size);
    }

    public int depth(int v) throws IndexOutOfBoundsException {
        requireVertex(v);
        return nested().countAround(v, size);
    }

    public int header(int v, boolean outer) throws IndexOutOfBoundsException {
        requireVertex(v);
        return nested().leastAround(v, outer ? v : NONE, size);
    }

    public boolean isReducible() {
        return worked(false).ringsGoBack();
    }

    public int order(int v, boolean left) throws IndexOutOfBoundsException {
        requireVertex(v);
        Side side = worked(false);
        return left ? side.leftAt[v] : side.enteredAt[v];
    }

    public int told(int what) {
        switch (what) {
            case 0:
                return size;
            case 1:
                return linkCount;
            case 2:
                return Long.bitCount(worked(false).met);
            case 3:
                return Long.bitCount(worked(true).met);
            case 4:
                return size == 0 ? NONE : fromEntry.root;
            case 5:
                return size == 0 ? NONE : toExit.root;
            default:
                return NONE;
        }
    }

    private void requireVertex(int v) {
        if (v < 0 || v >= size) {
            throw new IndexOutOfBoundsException("there is no such vertex");
        }
    }

    private Side worked(boolean ends) {
        Side side = ends ? toExit : fromEntry;
        side.workOut();
        return side;
    }

    private Nest nested() {
        fromEntry.workOut();
        nest.workOut(fromEntry, toExit.next);
        return nest;
    }

    private static long bit(int v) {
        return 1L << v;
    }

    private static boolean has(long set, int v) {
        return (set & bit(v)) != 0;
    }

    /** The least vertex of a set above v; 64, which no vertex is, when there is none. */
    private static int following(long set, int v) {
        long rest = set & (-1L << (v + 1));
        return Long.bitCount((rest & -rest) - 1);
    }

    /**
     * The graph as it is seen from one of its ends. Seen from the exit, against the links, covers
     * are what dominators are from the entry: so one class does for both.
     */
    private static final class Side {

        final long[] next = new long[MOST];
        final long[] above = new long[MOST];
        final int[] enteredAt = new int[MOST];
        final int[] leftAt = new int[MOST];
        final int[] byLeft = new int[MOST];
        final int[] trail = new int[MOST];
        int size = 0;
        int root = 0;
        long met = 0;
        boolean stale = false;

        void startWith(int n, int first) {
            Arrays.fill(next, 0L);
            size = n;
            root = first;
            stale = true;
        }

        void turn(int from, int to) {
            next[from] ^= bit(to);
            stale = true;
        }

        int moveRoot(int v) {
            int before = root;
            root = v;
            stale = true;
            return before;
        }

        /** A new object has nothing to work out, so that a stale side always has a root. */
        void workOut() {
            if (stale) {
                goOver();
                dominate();
                stale = false;
            }
        }

        private void goOver() {
            Arrays.fill(enteredAt, NONE);
            Arrays.fill(leftAt, NONE);
            int entered = 1;
            int left = 0;
            int open = 1;
            met = bit(root);
            enteredAt[root] = 0;
            trail[0] = root;
            // Each vertex is entered once and left once.
            for (int step = 0; step < 2 * size && open > 0; step++) {
                int here = trail[open - 1];
                int there = following(next[here] & ~met, -1);
                if (there < size) {
                    met |= bit(there);
                    enteredAt[there] = entered++;
                    trail[open++] = there;
                } else {
                    leftAt[here] = left;
                    byLeft[left++] = here;
                    open--;
                }
            }
        }

        /**
         * Begins with all above all, and takes away what a link shows not to be. A way without a
         * vertex twice has less than size links, and each round goes along at least one of them.
         */
        private void dominate() {
            for (int v = 0; v < size; v++) {
                above[v] = has(met, v) ? met : 0;
            }
            above[root] = bit(root);
            boolean changed = true;
            for (int round = 0; round < size && changed; round++) {
                changed = false;
                for (int k = Long.bitCount(met) - 1; k >= 0; k--) {
                    if (pushAlong(byLeft[k])) {
                        changed = true;
                    }
                }
            }
        }

        private boolean pushAlong(int u) {
            boolean changed = false;
            long row = next[u];
            int w = following(row, -1);
            for (int step = 0; step < size && w < size; step++) {
                long kept = above[w] & (above[u] | bit(w));
                if (kept != above[w]) {
                    above[w] = kept;
                    changed = true;
                }
                w = following(row, w);
            }
            return changed;
        }

        int closestAbove(int v) {
            long others = above[v] & ~bit(v);
            for (int u = 0; u < size; u++) {
                if (has(others, u) && above[u] == others) {
                    return u;
                }
            }
            return NONE;
        }

        long rimOf(int v) {
            long below = 0;
            long targets = 0;
            for (int u = 0; u < size; u++) {
                if (has(above[u], v)) {
                    below |= bit(u);
                    targets |= next[u];
                }
            }
            return targets & ~(below & ~bit(v));
        }

        long rimsFrom(long set) {
            long found = 0;
            long done = 0;
            long open = set & met;
            for (int step = 0; step < size && open != 0; step++) {
                int v = following(open, -1);
                done |= bit(v);
                found |= rimOf(v);
                open = (open | found) & ~done;
            }
            return found;
        }

        /**
         * Without a ring of links that do not go back, each of these leads to a vertex left before.
         * One that leads to a vertex left later makes a ring with the going over's own links from
         * there to here, and none of those ever goes back.
         */
        boolean ringsGoBack() {
            long done = 0;
            int count = Long.bitCount(met);
            for (int k = 0; k < count; k++) {
                int u = byLeft[k];
                if ((next[u] & ~above[u] & ~done) != 0) {
                    return false;
                }
                done |= bit(u);
            }
            return true;
        }
    }

    /** The loops, each kept with its header; a vertex that is no header has an empty one. */
    private static final class Nest {

        final long[] body = new long[MOST];
        boolean stale = false;

        void workOut(Side side, long[] sources) {
            if (stale) {
                for (int v = 0; v < side.size; v++) {
                    body[v] = bodyOf(v, side, sources);
                }
                stale = false;
            }
        }

        private static long bodyOf(int v, Side side, long[] sources) {
            long back = 0;
            long row = sources[v];
            int u = following(row, -1);
            for (int step = 0; step < side.size && u < side.size; step++) {
                if (has(side.above[u], v)) {
                    back |= bit(u);
                }
                u = following(row, u);
            }
            if (back == 0) {
                return 0;
            }
            return bit(v) | flood(back, side.met & ~bit(v), sources, side.size);
        }

        private static long flood(long start, long within, long[] sources, int size) {
            long found = start & within;
            long open = found;
            for (int step = 0; step < size && open != 0; step++) {
                int u = following(open, -1);
                long fresh = sources[u] & within & ~found;
                found |= fresh;
                open = (open & ~bit(u)) | fresh;
            }
            return found;
        }

        int count(int size) {
            int count = 0;
            for (int h = 0; h < size; h++) {
                count += body[h] != 0 ? 1 : 0;
            }
            return count;
        }

        int countAround(int v, int size) {
            int count = 0;
            for (int h = 0; h < size; h++) {
                count += has(body[h], v) ? 1 : 0;
            }
            return count;
        }

        int leastAround(int v, int but, int size) {
            int least = NONE;
            for (int h = 0; h < size; h++) {
                boolean around = h != but && has(body[h], v);
                if (around && (least == NONE || Long.bitCount(body[h]) < Long.bitCount(body[least]))) {
                    least = h;
                }
            }
            return least;
        }
    }
}
