import java.util.Arrays;

/**
 * Holds the program against a second one that follows the document's terms word by word, without
 * regard to speed: on every graph of up to three vertices from every entry and to every exit, on
 * every graph of four, and on many runs of calls that a fixed row of numbers chooses.
 */
public final class AgainstTermsTest {

    private static final int MOST_CALLS = 512;

    private AgainstTermsTest() {
    }

    public static void main(String[] args) {
        for (int n = 1; n <= 3; n++) {
            for (int entry = 0; entry < n; entry++) {
                for (int exit = 0; exit < n; exit++) {
                    allGraphs(n, entry, exit);
                }
            }
        }
        allGraphs(4, 0, 3);
        for (int seed = 1; seed <= 1500; seed++) {
            new Run(seed).go();
        }
        Check.end();
    }

    private static void allGraphs(int n, int entry, int exit) {
        for (int links = 0; links < 1 << (n * n); links++) {
            FlowNest x = new FlowNest();
            Terms t = new Terms(n, entry, exit);
            x.begin(n);
            x.place(entry, false);
            x.place(exit, true);
            for (int i = 0; i < n * n; i++) {
                if ((links >> i & 1) != 0) {
                    x.link(i / n, i % n);
                    t.link[i / n][i % n] = true;
                }
            }
            compareAll("graph " + links + " of " + n + " from " + entry + " to " + exit + ": ", x, t);
        }
    }

    private static void compareAll(String where, FlowNest x, Terms t) {
        compareWhole(where, x, t);
        for (int v = 0; v < t.n; v++) {
            compareVertex(where, x, t, v);
            for (int u = 0; u < t.n; u++) {
                comparePair(where, x, t, u, v);
            }
        }
    }

    private static void compareWhole(String where, FlowNest x, Terms t) {
        Check.due(where + "told(0)", x.told(0), t.n);
        Check.due(where + "told(1)", x.told(1), t.countLinks());
        Check.due(where + "told(2)", x.told(2), t.countReached(false));
        Check.due(where + "told(3)", x.told(3), t.countReached(true));
        Check.due(where + "told(4)", x.told(4), t.entry);
        Check.due(where + "told(5)", x.told(5), t.exit);
        Check.due(where + "loops", x.loops(), t.countLoops());
        Check.due(where + "isReducible", x.isReducible(), t.reducible());
        Check.due(where + "spread(-1)", x.spread(-1L), t.spread(-1L));
    }

    private static void compareVertex(String where, FlowNest x, Terms t, int v) {
        for (boolean flag : new boolean[] {false, true}) {
            Check.due(where + "isReached " + v + flag, x.isReached(v, flag), t.reached(v, flag));
            Check.due(where + "dominator " + v + flag, x.dominator(v, flag), t.dominator(v, flag));
            Check.due(where + "header " + v + flag, x.header(v, flag), t.header(v, flag));
            Check.due(where + "order " + v + flag, x.order(v, flag), t.order(v, flag));
        }
        Check.due(where + "level " + v, x.level(v), t.level(v));
        Check.due(where + "frontier " + v, x.frontier(v), t.frontier(v));
        Check.due(where + "spread of " + v, x.spread(1L << v), t.spread(1L << v));
        Check.due(where + "controls " + v, x.controls(v), t.controls(v));
        Check.due(where + "loop " + v, x.loop(v), t.loop(v));
        Check.due(where + "depth " + v, x.depth(v), t.depth(v));
    }

    private static void comparePair(String where, FlowNest x, Terms t, int u, int v) {
        String pair = u + " " + v;
        Check.due(where + "dominates " + pair, x.dominates(u, v, false), t.dominates(u, v, false));
        Check.due(where + "covers " + pair, x.dominates(u, v, true), t.dominates(u, v, true));
        Check.due(where + "isBack " + pair, x.isBack(u, v), t.back(u, v));
    }

    /** A run of at most 512 calls on one object, changes and questions mixed. */
    private static final class Run {

        private final int seed;
        private final int asking;
        private final FlowNest x = new FlowNest();
        private Terms t = new Terms(0, 0, 0);
        private long state;

        Run(int seed) {
            this.seed = seed;
            this.state = seed * 7919L;
            this.asking = pick(4);
        }

        private int pick(int bound) {
            state = state * 6364136223846793005L + 1442695040888963407L;
            return (int) ((state >>> 33) % bound);
        }

        void go() {
            begin();
            // A question to a vertex makes fourteen calls, one to the whole nine.
            for (int calls = 1; calls < MOST_CALLS - 20;) {
                calls += step("run " + seed + " after " + calls + ": ");
            }
        }

        private int step(String where) {
            int what = pick(100);
            if (what < 1) {
                return begin();
            }
            if (what < 4) {
                return place(where);
            }
            if (what < 90 - 10 * asking) {
                return link(where);
            }
            return ask(where, what % 3);
        }

        private int begin() {
            int n = pick(3) == 0 ? 1 + pick(48) : 2 + pick(10);
            Check.due("run " + seed + ": begin", x.begin(n), t.n);
            t = new Terms(n, 0, n - 1);
            return 1;
        }

        private int place(String where) {
            int v = pick(t.n);
            if (pick(2) == 0) {
                Check.due(where + "place exit", x.place(v, true), t.exit);
                t.exit = v;
            } else {
                Check.due(where + "place entry", x.place(v, false), t.entry);
                t.entry = v;
            }
            return 1;
        }

        /** Near links are likelier, so that the graphs have long ways and nested loops. */
        private int link(String where) {
            int u = pick(t.n);
            int near = Math.min(t.n - 1, Math.max(0, u + pick(7) - 2));
            int v = pick(4) == 0 ? pick(t.n) : near;
            t.link[u][v] = !t.link[u][v];
            Check.due(where + "link", x.link(u, v), t.link[u][v] ? 1 : 0);
            return 1;
        }

        private int ask(String where, int kind) {
            if (kind == 0) {
                compareWhole(where, x, t);
                return 9;
            }
            if (kind == 1) {
                compareVertex(where, x, t, pick(t.n));
                return 14;
            }
            comparePair(where, x, t, pick(t.n), pick(t.n));
            long set = state ^ state >>> 7;
            Check.due(where + "spread(" + set + ")", x.spread(set), t.spread(set));
            return 4;
        }
    }

    /** The document's terms, each worked out from its words whenever it is asked for. */
    private static final class Terms {

        final int n;
        final boolean[][] link;
        int entry;
        int exit;

        Terms(int n, int entry, int exit) {
            this.n = n;
            this.link = new boolean[n][n];
            this.entry = entry;
            this.exit = exit;
        }

        int countLinks() {
            int count = 0;
            for (boolean[] row : link) {
                for (boolean there : row) {
                    count += there ? 1 : 0;
                }
            }
            return count;
        }

        /** Whether there is a way that does not come by one vertex; -1 allows every one. */
        private boolean way(int from, int to, int without) {
            return from != without && wayOn(from, to, without, new boolean[n]);
        }

        private boolean wayOn(int from, int to, int without, boolean[] seen) {
            if (from == to) {
                return true;
            }
            seen[from] = true;
            for (int v = 0; v < n; v++) {
                if (link[from][v] && v != without && !seen[v] && wayOn(v, to, without, seen)) {
                    return true;
                }
            }
            return false;
        }

        boolean reached(int v, boolean ends) {
            return ends ? way(v, exit, -1) : way(entry, v, -1);
        }

        int countReached(boolean ends) {
            int count = 0;
            for (int v = 0; v < n; v++) {
                count += reached(v, ends) ? 1 : 0;
            }
            return count;
        }

        boolean dominates(int u, int v, boolean cover) {
            if (!reached(u, cover) || !reached(v, cover)) {
                return false;
            }
            return cover ? !way(v, exit, u) : !way(entry, v, u);
        }

        int dominator(int v, boolean cover) {
            for (int d = 0; d < n; d++) {
                boolean fits = d != v && dominates(d, v, cover);
                for (int u = 0; u < n && fits; u++) {
                    fits = u == v || !dominates(u, v, cover) || dominates(u, d, cover);
                }
                if (fits) {
                    return d;
                }
            }
            return -1;
        }

        int level(int v) {
            int others = 0;
            for (int u = 0; u < n; u++) {
                others += u != v && dominates(u, v, false) ? 1 : 0;
            }
            return reached(v, false) ? others : -1;
        }

        long frontier(int v) {
            long found = 0;
            for (int u = 0; u < n; u++) {
                for (int w = 0; w < n; w++) {
                    if (link[u][w] && dominates(v, u, false) && (w == v || !dominates(v, w, false))) {
                        found |= 1L << w;
                    }
                }
            }
            return found;
        }

        long spread(long set) {
            long[] frontiers = new long[n];
            for (int v = 0; v < n; v++) {
                frontiers[v] = frontier(v);
            }
            long found = 0;
            for (int round = 0; round <= n; round++) {
                for (int v = 0; v < n; v++) {
                    if (((set | found) >> v & 1) != 0) {
                        found |= frontiers[v];
                    }
                }
            }
            return found;
        }

        long controls(int u) {
            long found = 0;
            for (int v = 0; v < n; v++) {
                for (int w = 0; w < n; w++) {
                    if (link[u][w] && dominates(v, w, true) && (v == u || !dominates(v, u, true))) {
                        found |= 1L << v;
                    }
                }
            }
            return found;
        }

        boolean back(int u, int v) {
            return link[u][v] && dominates(v, u, false);
        }

        long loop(int v) {
            long found = 0;
            for (int u = 0; u < n; u++) {
                if (back(u, v)) {
                    found |= 1L << v;
                    for (int x = 0; x < n; x++) {
                        if (u != v && reached(x, false) && way(x, u, v)) {
                            found |= 1L << x;
                        }
                    }
                }
            }
            return found;
        }

        int countLoops() {
            int count = 0;
            for (int v = 0; v < n; v++) {
                count += loop(v) != 0 ? 1 : 0;
            }
            return count;
        }

        int depth(int v) {
            int count = 0;
            for (int h = 0; h < n; h++) {
                count += (loop(h) >> v & 1) != 0 ? 1 : 0;
            }
            return count;
        }

        int header(int v, boolean outer) {
            int header = -1;
            long least = -1L;
            for (int h = 0; h < n; h++) {
                long loop = loop(h);
                boolean around = (loop >> v & 1) != 0 && !(outer && h == v);
                if (around && (loop & least) == loop) {
                    header = h;
                    least = loop;
                }
            }
            return header;
        }

        boolean reducible() {
            Terms rest = new Terms(n, entry, exit);
            for (int u = 0; u < n; u++) {
                for (int v = 0; v < n; v++) {
                    rest.link[u][v] = link[u][v] && !back(u, v);
                }
            }
            for (int u = 0; u < n; u++) {
                for (int v = 0; v < n; v++) {
                    if (rest.link[u][v] && reached(u, false) && rest.way(v, u, -1)) {
                        return false;
                    }
                }
            }
            return true;
        }

        private int entered;
        private int left;

        int order(int v, boolean leaving) {
            int[] enteredAt = new int[n];
            int[] leftAt = new int[n];
            Arrays.fill(enteredAt, -1);
            Arrays.fill(leftAt, -1);
            entered = 0;
            left = 0;
            goOver(entry, enteredAt, leftAt);
            return leaving ? leftAt[v] : enteredAt[v];
        }

        private void goOver(int here, int[] enteredAt, int[] leftAt) {
            enteredAt[here] = entered++;
            for (int v = 0; v < n; v++) {
                if (link[here][v] && enteredAt[v] < 0) {
                    goOver(v, enteredAt, leftAt);
                }
            }
            leftAt[here] = left++;
        }
    }
}
