/** Promises 1 to 4: a new object, push, empty, hand. */
final class HandEdges extends Edges {
    HandEdges(Checks checks, Document document) {
        super(checks, document);
    }

    @Override
    void run() {
        newHasNoRows();
        newHasAnEmptyHand();
        newHasNoRoutine();
        newLawHasOneState();
        newLawHasNoStep();
        callsAreEight();
        handHasTwelveAtMost();
        pushTellsHowMany();
        pushOnAFullHand();
        pushOfNoCall();
        emptyTellsHowManyItHad();
        handTellsItsCalls();
        handTellsNoneBeside();
    }

    private void newHasNoRows() {
        sentence(1, "No ROWS");
        UsageDesk d = new UsageDesk();
        due("rows that are there", d.count(0), 0);
        due("rows told", d.count(1), 0);
        due("nodes", d.count(6), 1);
        throwing("drop", INDEX, d::drop, -1, 0, 1, 59, 60);
        throwing("told", INDEX, row -> d.told(row, 0), -1, 0, 1, 59, 60);
        due("rows with a", d.habit(0, 1, 0), 0);
        due("rank", d.rank(0, 0), NONE);
        due("the first number", d.row(true), 0);
    }

    private void newHasAnEmptyHand() {
        sentence(1, "an empty HAND");
        UsageDesk d = new UsageDesk();
        due("count(4)", d.count(4), 0);
        due("hand(0)", d.hand(0), NONE);
        due("row(false)", d.row(false), -1);
        due("takes", d.takes(), 0);
        due("mend", d.mend(), 0);
        due("empty", d.empty(), 0);
        due("push", d.push(7), 1);
    }

    private void newHasNoRoutine() {
        sentence(1, "no ROUTINE");
        UsageDesk d = new UsageDesk();
        due("broken ahead of a hold", d.broken(0), NONE);
        due("hold", d.hold(), 0);
        due("broken", d.broken(0), NONE);
        due("bytes", d.count(5), 0);
    }

    private void newLawHasOneState() {
        sentence(1, "the LAW has STATE 0 alone");
        UsageDesk d = new UsageDesk();
        due("states", d.count(2), 1);
        throwing("step", INDEX, state -> d.step(state, 0), -1, 1, 29, 30);
        throwing("seen", INDEX, state -> d.seen(state, 0), -1, 1, 29, 30);
    }

    private void newLawHasNoStep() {
        sentence(1, "and no STEP");
        Deskhand h = new Deskhand();
        due("steps", h.desk.count(3), 0);
        for (int call = 0; call < 8; call++) {
            due("step by " + call, h.desk.step(0, call), NONE);
            due("seen by " + call, h.desk.seen(0, call), 0);
        }
        due("doubt", h.desk.doubt(HIGHEST), 0);
        due("takes of h", h.push("h").desk.takes(), 0);
        due("break of h", h.breakOf("h"), "h");
        due("all is taken out", h.mended("abcdefgh"), " 8");
    }

    private void callsAreEight() {
        sentence(Document.TERMS, "CALLS a to h (0 to 7)");
        UsageDesk d = new UsageDesk();
        for (int call = 0; call < 8; call++) {
            due("push " + call, d.push(call), call + 1);
            due("hand " + call, d.hand(call), call);
        }
        throwing("push", ARGUMENT, d::push, NO_CALL);
    }

    private void handHasTwelveAtMost() {
        sentence(Document.TERMS, "The HAND is a row of CALLS that are pushed, 12 at most");
        Deskhand h = new Deskhand().push("abcdefghabcdefgh");
        due("calls", h.desk.count(4), 12);
        due("the first twelve", h.hand(), "abcdefghabcd");
    }

    private void pushTellsHowMany() {
        sentence(2, "A CALL is pushed: how many the HAND has");
        UsageDesk d = new UsageDesk();
        for (int size = 1; size <= 12; size++) {
            due("push", d.push(7), size);
            due("count(4)", d.count(4), size);
        }
    }

    private void pushOnAFullHand() {
        sentence(2, "NONE, doing nothing: it has 12");
        Deskhand h = new Deskhand().push("aaaaaaaaaaa");
        due("push of a 12th", h.desk.push(1), 12);
        due("push of a 13th", h.desk.push(2), NONE);
        due("push of a 14th", h.desk.push(0), NONE);
        due("the hand", h.hand(), "aaaaaaaaaaab");
        due("its row", h.desk.row(true), 0);
        due("the row's calls", h.desk.told(0, 2), 12);
        due("push on the empty hand", h.desk.push(2), 1);
    }

    private void pushOfNoCall() {
        sentence(2, "IllegalArgumentException: no such CALL (so below)");
        Deskhand h = new Deskhand();
        throwing("push on an empty hand", ARGUMENT, h.desk::push, NO_CALL);
        due("it stays empty", h.hand(), "");
        h.push("ha");
        throwing("push", ARGUMENT, h.desk::push, NO_CALL);
        due("the hand stays", h.hand(), "ha");
        h.push("bcdefghabc");
        throwing("push on a full hand", ARGUMENT, h.desk::push, NO_CALL);
        due("the full hand stays", h.hand(), "habcdefghabc");
        throwing("step", ARGUMENT, call -> h.desk.step(0, call), NO_CALL);
        throwing("seen", ARGUMENT, call -> h.desk.seen(0, call), NO_CALL);
        throwing("habit", ARGUMENT, call -> h.desk.habit(call, 0, 0), NO_CALL);
        throwing("habit behind", ARGUMENT, call -> h.desk.habit(0, call, 0), NO_CALL);
    }

    private void emptyTellsHowManyItHad() {
        sentence(3, "The HAND is empty: how many it had");
        Deskhand h = new Deskhand();
        due("empty of none", h.desk.empty(), 0);
        due("empty of one", h.push("h").desk.empty(), 1);
        due("empty of twelve", h.push("hhhhhhhhhhhh").desk.empty(), 12);
        due("empty again", h.desk.empty(), 0);
        due("calls", h.desk.count(4), 0);
        due("hand(0)", h.desk.hand(0), NONE);
        due("hand(11)", h.desk.hand(11), NONE);
        due("push", h.desk.push(0), 1);
        due("no row was made", h.desk.count(1), 0);
    }

    private void handTellsItsCalls() {
        sentence(4, "CALL k of the HAND");
        Deskhand h = new Deskhand().push("habcdefgabch");
        due("the first one", h.desk.hand(0), 7);
        due("the second one", h.desk.hand(1), 0);
        due("the last one of twelve", h.desk.hand(11), 7);
        due("the hand stays", h.desk.count(4), 12);
    }

    private void handTellsNoneBeside() {
        sentence(4, "NONE");
        Deskhand h = new Deskhand();
        due("of an empty hand", h.desk.hand(0), NONE);
        h.push("ccc").desk.empty();
        h.push("b");
        for (int k : new int[] {LOWEST, -1, 1, 2, 11, 12, 13, HIGHEST}) {
            due("hand(" + k + ") of one call", h.desk.hand(k), NONE);
        }
        h.push("bbbbbbbbbbb");
        for (int k : new int[] {LOWEST, -12, -1, 12, 13, HIGHEST}) {
            due("hand(" + k + ") of twelve", h.desk.hand(k), NONE);
        }
    }
}
