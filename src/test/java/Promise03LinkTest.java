/** Promise 3: link. */
public final class Promise03LinkTest {

    private Promise03LinkTest() {
    }

    public static void main(String[] args) {
        Check.promise("03", Promise03LinkTest.class);
    }

    /** "A link is there if it was not": "1 as it is then". */
    private static void promise03ThereIfItWasNot() {
        FlowNest x = Graphs.linked(2);
        Check.due("link", x.link(0, 1), 1);
        Check.due("links", x.told(1), 1);
        Check.due("1 is reached", x.isReached(1, false), true);
        Check.due("0 ends", x.isReached(0, true), true);
    }

    /** "And not if it was": "0 as it is then". */
    private static void promise03NotIfItWas() {
        FlowNest x = Graphs.linked(2, 0, 1);
        Check.due("link", x.link(0, 1), 0);
        Check.due("links", x.told(1), 0);
        Check.due("1 is reached", x.isReached(1, false), false);
        Check.due("0 ends", x.isReached(0, true), false);
    }

    private static void promise03AgainAndAgain() {
        FlowNest x = Graphs.linked(3);
        for (int k = 1; k <= 9; k++) {
            Check.due("link for the time " + k, x.link(1, 2), k % 2);
            Check.due("links at the time " + k, x.told(1), k % 2);
        }
    }

    /** A link that is taken away leaves nothing behind, asked for in between or not. */
    private static void promise03AwayAsIfItNeverWas() {
        FlowNest x = Graphs.threeNested();
        x.link(5, 0);
        x.loops();
        x.told(3);
        x.link(5, 0);
        Check.dueSame("there and away", x, Graphs.threeNested());
    }

    /** "LINKS lead from one to another": not the other way. */
    private static void promise03OneWay() {
        FlowNest x = Graphs.linked(2, 1, 0);
        Check.due("1 is reached", x.isReached(1, false), false);
        Check.due("link(0, 1) is another", x.link(0, 1), 1);
        Check.due("link(1, 0) away", x.link(1, 0), 0);
        Check.due("links", x.told(1), 1);
        Check.due("1 is reached then", x.isReached(1, false), true);
    }

    /** "Or to itself." */
    private static void promise03ToItself() {
        FlowNest x = Graphs.linked(48);
        for (int v = 0; v < 48; v += 47) {
            Check.due("link to itself", x.link(v, v), 1);
            Check.due("links", x.told(1), 1);
            Check.due("link to itself away", x.link(v, v), 0);
            Check.due("no links", x.told(1), 0);
        }
    }

    /** "Each there or not": no link stands for another, not even where an int's bits would wrap round. */
    private static void promise03EachByItself() {
        FlowNest x = Graphs.linked(48);
        int[] ends = {0, 1, 15, 16, 31, 32, 33, 47};
        int links = 0;
        for (int from : ends) {
            for (int to : ends) {
                Check.due("link(" + from + ", " + to + ")", x.link(from, to), 1);
                links++;
                Check.due("links", x.told(1), links);
            }
        }
        for (int from : ends) {
            for (int to : ends) {
                Check.due("link(" + from + ", " + to + ") away", x.link(from, to), 0);
            }
        }
        Check.due("links in the end", x.told(1), 0);
    }

    /** As many links as the 512 calls leave room for. */
    private static void promise03MostLinks() {
        FlowNest x = Graphs.linked(48);
        for (int k = 0; k < 510; k++) {
            Check.due("link " + k, x.link(k / 48, k % 48), 1);
        }
        Check.due("links", x.told(1), 510);
    }

    /** "Each there or not": all of them there, and then all not. */
    private static void promise03Full() {
        FlowNest x = Graphs.linked(15);
        for (int i = 0; i < 225; i++) {
            Check.due("link " + i, x.link(i / 15, i % 15), 1);
        }
        Check.due("all links", x.told(1), 225);
        for (int i = 0; i < 225; i++) {
            Check.due("link " + i + " away", x.link(i / 15, i % 15), 0);
        }
        Check.due("no links", x.told(1), 0);
    }

    /** "IndexOutOfBounds: there is no such vertex": the first. */
    private static void promise03NoSuchFrom() {
        Refused.vertex((x, v) -> x.link(v, 0));
    }

    /** "IndexOutOfBounds: there is no such vertex": the second. */
    private static void promise03NoSuchTo() {
        Refused.vertex((x, v) -> x.link(0, v));
    }

    private static void promise03NeitherIsThere() {
        Refused.vertex((x, v) -> x.link(v, v));
    }

    /** "A call that throws changes nothing." */
    private static void promise03RefusedChangesNothing() {
        Refused.vertexChangesNothing((x, v) -> x.link(v, 0));
        Refused.vertexChangesNothing((x, v) -> x.link(0, v));
        Refused.vertexChangesNothing((x, v) -> x.link(v, v));
    }
}
