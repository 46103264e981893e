/** Promises 5 to 7: row, drop, told; and what quarrels. */
final class RowEdges extends Edges {
    private static final int[] NO_WHAT = {LOWEST, -1, 4, 5, HIGHEST};

    RowEdges(Checks checks, Document document) {
        super(checks, document);
    }

    @Override
    void run() {
        rowsAreSixtyAtMost();
        rowsHaveNoneToTwelve();
        numbersAreNotGivenAgain();
        rowTakesTheHand();
        rowOfAWrongOneWithoutCalls();
        rowBehindSixty();
        dropOnceAndAgain();
        dropOfNoRow();
        toldThere();
        toldRight();
        toldSize();
        toldCut();
        toldLeftOut();
        toldOfADroppedOne();
        toldOfAnotherWhat();
        wrongQuarrelsWithItsContinuation();
        quarrelWithAnyLeavesOut();
        cutByTheShortest();
        wholeWithoutAQuarrel();
    }

    /** A desk with sixty ROWS, each of one CALL or none. */
    private static Deskhand full() {
        Deskhand h = new Deskhand();
        for (int row = 0; row < 60; row++) {
            h.row(row % 3 == 0 ? "" : "a", true);
        }
        return h;
    }

    private void rowsAreSixtyAtMost() {
        sentence(Document.TERMS, "ROWS, numbered from 0 on, 60 at most in all");
        Deskhand h = new Deskhand();
        for (int row = 0; row < 60; row++) {
            due("row", h.row("h", row % 2 == 0), row);
        }
        due("one more", h.row("h", true), -2);
        due("rows told", h.desk.count(1), 60);
    }

    private void rowsHaveNoneToTwelve() {
        sentence(Document.TERMS, "each a row of 0 to 12 CALLS (a WRONG one 1 at least), RIGHT or WRONG");
        Deskhand h = new Deskhand();
        due("a right one of none", h.row("", true), 0);
        due("a wrong one of none", h.row("", false), -1);
        due("a right one of one", h.row("a", true), 1);
        due("a wrong one of one", h.row("b", false), 2);
        due("a right one of twelve", h.row("abcdefghabcd", true), 3);
        due("a wrong one of twelve", h.row("hgfedcbahgfe", false), 4);
        due("sizes", h.toldOfAll(2), "0 1 1 12 12");
        due("kinds", h.toldOfAll(1), "1 1 0 1 0");
    }

    private void numbersAreNotGivenAgain() {
        sentence(Document.TERMS, "a ROW may be dropped (its number is not given again)");
        Deskhand h = new Deskhand().right("a", "b");
        h.desk.drop(1);
        due("the number behind a dropped last one", h.row("c", true), 2);
        h.desk.drop(0);
        due("the number behind a dropped first one", h.row("d", true), 3);
        due("which are there", h.toldOfAll(0), "0 0 1 1");
    }

    private void rowTakesTheHand() {
        sentence(5, "The HAND (empty then) is a RIGHT (true) or WRONG ROW: its number");
        Deskhand h = new Deskhand();
        due("row(true) of no calls", h.desk.row(true), 0);
        due("row(true)", h.push("abc").desk.row(true), 1);
        due("the hand is empty", h.hand(), "");
        due("row(false)", h.push("h").desk.row(false), 2);
        due("the hand is empty again", h.hand(), "");
        due("and makes an empty row", h.desk.row(true), 3);
        due("sizes", h.toldOfAll(2), "0 3 1 0");
        due("kinds", h.toldOfAll(1), "1 1 0 1");
        due("its calls went along", h.desk.habit(0, 2, 1), 1);
    }

    private void rowOfAWrongOneWithoutCalls() {
        sentence(5, "-1, and the HAND stays: a WRONG one without CALLS");
        Deskhand h = new Deskhand();
        due("row(false)", h.desk.row(false), -1);
        due("rows told", h.desk.count(1), 0);
        due("the hand stays empty", h.desk.count(4), 0);
        due("the next number", h.row("a", false), 0);
        due("row(false) again", h.desk.row(false), -1);
        due("rows told then", h.desk.count(1), 1);
        Deskhand sixty = full();
        due("row(false) behind sixty", sixty.desk.row(false), -1);
        due("rows told of sixty", sixty.desk.count(1), 60);
    }

    private void rowBehindSixty() {
        sentence(5, "-2, and it stays: there were 60");
        Deskhand h = full();
        due("row(true) of no calls", h.desk.row(true), -2);
        h.push("abcdefghabcd");
        due("row(true)", h.desk.row(true), -2);
        due("row(false)", h.desk.row(false), -2);
        due("the hand stays", h.hand(), "abcdefghabcd");
        due("rows told", h.desk.count(1), 60);
        due("nodes", h.desk.count(6), 2);
        h.desk.drop(0);
        h.desk.drop(59);
        due("row(true) behind two that were dropped", h.desk.row(true), -2);
        due("the hand stays then", h.desk.count(4), 12);
        due("rows that are there", h.desk.count(0), 58);
    }

    private void dropOnceAndAgain() {
        sentence(6, "A ROW is dropped: true; false: it was.");
        Deskhand h = full();
        for (int row : new int[] {0, 59, 30}) {
            due("drop " + row, h.desk.drop(row), true);
            due("drop " + row + " again", h.desk.drop(row), false);
            due("told", h.desk.told(row, 0), 0);
        }
        due("rows that are there", h.desk.count(0), 57);
        due("rows told", h.desk.count(1), 60);
        Deskhand wrong = new Deskhand().wrong("h");
        due("drop of a wrong one", wrong.desk.drop(0), true);
        due("drop of it again", wrong.desk.drop(0), false);
    }

    private void dropOfNoRow() {
        sentence(6, "IndexOutOfBoundsException: no such ROW was told (so below)");
        Deskhand none = new Deskhand();
        throwing("drop without rows", INDEX, none.desk::drop, LOWEST, -1, 0, 1, HIGHEST);
        Deskhand h = new Deskhand().right("a", "").wrong("b");
        h.desk.drop(2);
        throwing("drop", INDEX, h.desk::drop, LOWEST, -3, -1, 3, 59, 60, HIGHEST);
        throwing("told", INDEX, row -> h.desk.told(row, 0), LOWEST, -3, -1, 3, 59, 60, HIGHEST);
        throwing("told of another what, too", INDEX, row -> h.desk.told(row, 4), LOWEST, -1, 3, 60, HIGHEST);
        due("which are there", h.toldOfAll(0), "1 1 0");
        Deskhand sixty = full();
        throwing("drop of sixty", INDEX, sixty.desk::drop, -1, 60, 61);
        throwing("told of sixty", INDEX, row -> sixty.desk.told(row, 0), -1, 60, 61);
        due("rows that are there", sixty.desk.count(0), 60);
    }

    private void toldThere() {
        sentence(7, "Of a ROW: 0 whether it is there (1, 0)");
        Deskhand h = new Deskhand().right("", "a").wrong("a", "b");
        due("told 0", h.toldOfAll(0), "1 1 1 1");
        h.desk.drop(0);
        h.desk.drop(3);
        due("told 0 behind drops", h.toldOfAll(0), "0 1 1 0");
    }

    private void toldRight() {
        sentence(7, "1 whether it is RIGHT");
        Deskhand h = new Deskhand().right("", "a").wrong("a", "b");
        due("told 1", h.toldOfAll(1), "1 1 0 0");
        h.desk.drop(0);
        h.desk.drop(3);
        due("told 1 behind drops", h.toldOfAll(1), "1 1 0 0");
    }

    private void toldSize() {
        sentence(7, "2 how many CALLS");
        Deskhand h = new Deskhand().right("", "aaaaaaaaaaaa").wrong("aaaaaaaaaaaa", "a", "ab");
        due("told 2, not cut", h.toldOfAll(2), "0 12 12 1 2");
        h.desk.drop(1);
        due("told 2 behind a drop", h.toldOfAll(2), "0 12 12 1 2");
    }

    private void toldCut() {
        sentence(7, "3 of a RIGHT one that is there how many of them when it is CUT");
        Deskhand h = new Deskhand().right("abcdefghabcd", "").wrong("abcdefghabcd");
        due("by a wrong one that is the same", h.desk.told(0, 3), 11);
        h.wrong("abc");
        due("by one of three", h.desk.told(0, 3), 2);
        h.wrong("a");
        due("by one of one", h.desk.told(0, 3), 0);
        due("an empty one", h.desk.told(1, 3), 0);
        h.desk.drop(4);
        h.desk.drop(3);
        h.desk.drop(2);
        due("by none that is there", h.desk.told(0, 3), 12);
    }

    private void toldLeftOut() {
        sentence(7, "of a WRONG one that is there whether it is left out (1, 0)");
        Deskhand h = new Deskhand().right("abc", "").wrong("a", "abc", "abcd", "b", "ac");
        due("told 3", h.toldOfAll(3), "0 0 1 1 0 0 0");
        h.desk.drop(0);
        due("told 3 without the right one", h.toldOfAll(3), "0 0 0 0 0 0 0");
    }

    private void toldOfADroppedOne() {
        sentence(7, "else 0");
        Deskhand h = new Deskhand().right("abc", "abc").wrong("ab", "ab");
        due("told 3", h.toldOfAll(3), "1 1 1 1");
        h.desk.drop(0);
        h.desk.drop(2);
        due("told 3 of dropped ones", h.toldOfAll(3), "0 1 0 1");
        h.desk.drop(3);
        due("a whole one beside them", h.toldOfAll(3), "0 3 0 0");
    }

    private void toldOfAnotherWhat() {
        sentence(7, "IllegalArgumentException: another what");
        Deskhand h = new Deskhand().right("abc", "").wrong("b");
        h.desk.drop(1);
        throwing("told of a right one", ARGUMENT, what -> h.desk.told(0, what), NO_WHAT);
        throwing("told of a dropped one", ARGUMENT, what -> h.desk.told(1, what), NO_WHAT);
        throwing("told of a wrong one", ARGUMENT, what -> h.desk.told(2, what), NO_WHAT);
        due("which are there", h.toldOfAll(0), "1 0 1");
    }

    private void wrongQuarrelsWithItsContinuation() {
        sentence(Document.TERMS, "A WRONG ROW QUARRELS with a RIGHT one that begins with it.");
        due("the same row", leftOut("abcd", "abcd"), 1);
        due("the first call alone", leftOut("abcd", "a"), 1);
        due("all but the last call", leftOut("abcd", "abc"), 1);
        due("one call more", leftOut("abcd", "abcda"), 0);
        due("another last call", leftOut("abcd", "abcc"), 0);
        due("another first call", leftOut("abcd", "bbcd"), 0);
        due("a row in its midst", leftOut("abcd", "bc"), 0);
        due("an empty right one", leftOut("", "a"), 0);
        due("twelve calls", leftOut("abcdefghabcd", "abcdefghabcd"), 1);
        due("twelve calls, but the last one", leftOut("abcdefghabcd", "abcdefghabce"), 0);
    }

    private static int leftOut(String right, String wrong) {
        return new Deskhand().wrong(wrong).right(right).desk.told(0, 3);
    }

    private void quarrelWithAnyLeavesOut() {
        sentence(Document.TERMS, "One that quarrels with any is left out");
        Deskhand h = new Deskhand().right("c").wrong("ab").right("b", "abc", "");
        due("with one of four", h.desk.told(1, 3), 1);
        h.right("ab");
        h.desk.drop(3);
        due("with another one", h.desk.told(1, 3), 1);
        h.desk.drop(5);
        due("with none that is there", h.desk.told(1, 3), 0);
    }

    private void cutByTheShortest() {
        sentence(Document.TERMS, "each RIGHT ROW is CUT ahead of the last CALL of the shortest WRONG one that it quarrels with");
        due("the shortest told last", new Deskhand().right("abcdef").wrong("abcdef", "abcde", "ab").desk.told(0, 3), 1);
        due("the shortest told first", new Deskhand().right("abcdef").wrong("ab", "abcde", "abcdef").desk.told(0, 3), 1);
        due("a shorter one that is no beginning", new Deskhand().right("abcdef").wrong("b", "ac", "abcd").desk.told(0, 3), 3);
        Deskhand h = new Deskhand().wrong("abc").right("abc", "abcabc", "ab", "abd");
        due("each by its own", h.toldOfAll(3), "1 2 2 2 3");
        Deskhand empty = new Deskhand().right("abcdefghabcd").wrong("a");
        due("to no calls", empty.desk.told(0, 3), 0);
        due("which leave the empty node", empty.desk.count(6), 1);
    }

    private void wholeWithoutAQuarrel() {
        sentence(Document.TERMS, "(whole without one)");
        Deskhand h = new Deskhand().right("", "a", "abcdefghabcd").wrong("b", "ab" + "a", "h");
        due("told 3", h.toldOfAll(3), "0 1 12 0 0 0");
        due("nodes", h.desk.count(6), 13);
    }
}
