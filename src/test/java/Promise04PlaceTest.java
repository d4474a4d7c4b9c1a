/** Promise 4: place. */
public final class Promise04PlaceTest {

    private Promise04PlaceTest() {
    }

    public static void main(String[] args) {
        Check.promise("04", Promise04PlaceTest.class);
    }

    /** "There is an ENTRY, at first 0": so that is what it was. */
    private static void promise04EntryAtFirst() {
        Check.due("of 1", Graphs.linked(1).place(0, false), 0);
        Check.due("of 5", Graphs.linked(5).place(3, false), 0);
        Check.due("of 48", Graphs.linked(48).place(47, false), 0);
    }

    /** "And an EXIT, at first n - 1": so that is what it was. */
    private static void promise04ExitAtFirst() {
        Check.due("of 1", Graphs.linked(1).place(0, true), 0);
        Check.due("of 5", Graphs.linked(5).place(3, true), 4);
        Check.due("of 48", Graphs.linked(48).place(0, true), 47);
    }

    /** "The entry is another one": and the exit stays. */
    private static void promise04EntryIsAnother() {
        FlowNest x = Graphs.row(4);
        x.place(2, false);
        Check.due("entry", x.told(4), 2);
        Check.due("exit", x.told(5), 3);
        Check.dueEach("reached", v -> x.isReached(v, false) ? 1 : 0, 0, 0, 1, 1);
        Check.dueEach("ends", v -> x.isReached(v, true) ? 1 : 0, 1, 1, 1, 1);
    }

    /** "Or (on exit) the exit": and the entry stays. */
    private static void promise04ExitIsAnother() {
        FlowNest x = Graphs.row(4);
        x.place(1, true);
        Check.due("entry", x.told(4), 0);
        Check.due("exit", x.told(5), 1);
        Check.dueEach("reached", v -> x.isReached(v, false) ? 1 : 0, 1, 1, 1, 1);
        Check.dueEach("ends", v -> x.isReached(v, true) ? 1 : 0, 1, 1, 0, 0);
    }

    /** "What it was": by the last place. */
    private static void promise04WhatItWas() {
        FlowNest x = Graphs.linked(48);
        x.place(47, false);
        x.place(0, true);
        Check.due("entry was", x.place(20, false), 47);
        Check.due("exit was", x.place(21, true), 0);
        Check.due("entry was then", x.place(0, false), 20);
        Check.due("exit was then", x.place(47, true), 21);
    }

    /** "What it was": after begin, what that has set. */
    private static void promise04WhatItWasAfterBegin() {
        FlowNest x = Graphs.linked(9);
        x.place(5, false);
        x.place(5, true);
        x.begin(7);
        Check.due("entry was", x.place(1, false), 0);
        Check.due("exit was", x.place(1, true), 6);
    }

    /** On the one that it is on already. */
    private static void promise04OnTheSame() {
        FlowNest x = Graphs.threeNested();
        Check.due("entry was", x.place(0, false), 0);
        Check.due("exit was", x.place(5, true), 5);
        Check.dueSame("placed as they were", x, Graphs.threeNested());
    }

    /** Away and back again, all is as before. */
    private static void promise04BackAgain() {
        FlowNest x = Graphs.threeNested();
        x.place(4, false);
        x.place(2, true);
        x.loops();
        x.told(3);
        x.place(0, false);
        x.place(5, true);
        Check.dueSame("placed back", x, Graphs.threeNested());
    }

    /** Entry and exit may be one. */
    private static void promise04BothOnOne() {
        FlowNest x = Graphs.row(4);
        x.place(2, false);
        x.place(2, true);
        Check.due("entry", x.told(4), 2);
        Check.due("exit", x.told(5), 2);
        Check.due("reached", x.told(2), 2);
        Check.due("ending", x.told(3), 3);
    }

    /** The links stay where they are. */
    private static void promise04LinksStay() {
        FlowNest x = Graphs.row(4);
        x.place(3, false);
        x.place(0, true);
        Check.due("links", x.told(1), 3);
        Check.due("reached", x.told(2), 1);
        Check.due("ending", x.told(3), 1);
        Check.due("link away", x.link(0, 1), 0);
    }

    /** The loops, and all else that was answered before, follow the new entry. */
    private static void promise04AnswersFollow() {
        FlowNest x = Graphs.threeNested();
        Graphs.answers(x);
        x.place(3, false);
        x.place(2, true);
        FlowNest fresh = Graphs.threeNested();
        fresh.place(3, false);
        fresh.place(2, true);
        Check.dueSame("after answers", x, fresh);
        Check.dueEach("depth", x::depth, 1, 1, 1, 1, 1, 0);
        Check.dueEach("dominator", v -> x.dominator(v, false), 4, 4, 3, -1, 3, 4);
        Check.dueEach("cover", v -> x.dominator(v, true), 1, 2, -1, 2, 1, -1);
    }

    /** "IndexOutOfBounds: there is no such vertex." */
    private static void promise04NoSuchVertex() {
        Refused.vertex((x, v) -> x.place(v, false));
        Refused.vertex((x, v) -> x.place(v, true));
    }

    /** "A call that throws changes nothing." */
    private static void promise04RefusedChangesNothing() {
        Refused.vertexChangesNothing((x, v) -> x.place(v, false));
        Refused.vertexChangesNothing((x, v) -> x.place(v, true));
    }
}
