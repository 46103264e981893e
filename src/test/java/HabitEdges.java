/** Promises 19 and 20: habit, rank. */
final class HabitEdges extends Edges {
    private static final int[] NO_WHAT = {LOWEST, -1, 2, 3, HIGHEST};

    HabitEdges(Checks checks, Document document) {
        super(checks, document);
    }

    @Override
    void run() {
        behindEachX();
        ofRowsThatAreThere();
        habitHowManyHaveX();
        habitHowManyHold();
        habitOfWrongArguments();
        ranksNeedARow();
        ranksOfUnlikeCalls();
        sharesAreComparedExactly();
        alikeSharesByRows();
        alikeSharesByCalls();
        rankTellsXAndY();
        rankTellsNoneBeside();
        rankOfAnotherWhat();
    }

    /** Whether the HABIT x y holds in a row. */
    private static int holds(String row, int x, int y) {
        return new Deskhand().right(row).desk.habit(x, y, 1);
    }

    private void behindEachX() {
        sentence(Document.TERMS, "those in which behind each x (not in its place) a y comes");
        due("ab", holds("ab", 0, 1), 1);
        due("ba", holds("ba", 0, 1), 0);
        due("aba", holds("aba", 0, 1), 0);
        due("aab", holds("aab", 0, 1), 1);
        due("accb", holds("accb", 0, 1), 1);
        due("bab", holds("bab", 0, 1), 1);
        due("a alone", holds("a", 0, 1), 0);
        due("no a", holds("b", 0, 1), 0);
        due("an empty row", holds("", 0, 1), 0);
        due("the first and the last of twelve", holds("accccccccccb", 0, 1), 1);
        due("the last of twelve", holds("abccccccccca", 0, 1), 0);
        due("a and a in one place", holds("a", 0, 0), 0);
        due("a and a in two places", holds("aa", 0, 0), 0);
        due("h and g", holds("hg", 7, 6), 1);
    }

    private void ofRowsThatAreThere() {
        sentence(Document.TERMS, "of the RIGHT ROWS with x, told as they are there");
        Deskhand h = new Deskhand().right("ab", "a").wrong("ab", "ac");
        due("rows", h.desk.habit(0, 1, 0), 2);
        due("holds, though the row is cut", h.desk.habit(0, 1, 1), 1);
        h.desk.drop(1);
        due("rows behind a drop", h.desk.habit(0, 1, 0), 1);
        h.desk.drop(0);
        due("rows behind two", h.desk.habit(0, 1, 0), 0);
        due("holds behind two", h.desk.habit(0, 1, 1), 0);
        due("rank behind two", h.desk.rank(0, 0), NONE);
        h.right("cab");
        due("rows again, without learning", h.desk.habit(0, 1, 0), 1);
        due("holds again", h.desk.habit(0, 1, 1), 1);
    }

    private void habitHowManyHaveX() {
        sentence(19, "HABIT x y: how many ROWS have x (0)");
        Deskhand h = new Deskhand();
        due("without rows", h.desk.habit(0, 7, 0), 0);
        for (int row = 0; row < 60; row++) {
            h.right("aah");
        }
        due("sixty, each once", h.desk.habit(0, 7, 0), 60);
        due("sixty with h", h.desk.habit(7, 0, 0), 60);
        due("whatever y is", h.desk.habit(0, 0, 0), 60);
        due("none with b", h.desk.habit(1, 0, 0), 0);
    }

    private void habitHowManyHold() {
        sentence(19, "in how many of these it holds (1)");
        Deskhand h = new Deskhand();
        due("without rows", h.desk.habit(0, 7, 1), 0);
        for (int row = 0; row < 60; row++) {
            h.right(row % 2 == 0 ? "ah" : "aah");
        }
        due("in all sixty", h.desk.habit(0, 7, 1), 60);
        due("in none", h.desk.habit(7, 0, 1), 0);
        due("in none with one call twice", h.desk.habit(0, 0, 1), 0);
        due("of a call that no row has", h.desk.habit(1, 0, 1), 0);
    }

    private void habitOfWrongArguments() {
        sentence(19, "IllegalArgumentException: also another what");
        Deskhand h = new Deskhand();
        throwing("habit without rows", ARGUMENT, what -> h.desk.habit(0, 1, what), NO_WHAT);
        h.right("ab");
        throwing("habit", ARGUMENT, what -> h.desk.habit(0, 1, what), NO_WHAT);
        throwing("habit with no x", ARGUMENT, x -> h.desk.habit(x, 1, 0), NO_CALL);
        throwing("habit with no y", ARGUMENT, y -> h.desk.habit(0, y, 1), NO_CALL);
        throwing("habit with nothing right", ARGUMENT, x -> h.desk.habit(x, x, x), NO_CALL);
        due("the last calls", h.desk.habit(7, 7, 1), 0);
    }

    private void ranksNeedARow() {
        sentence(Document.TERMS, "RANK: all HABITS with a ROW with x at least");
        due("without rows", new UsageDesk().rank(0, 0), NONE);
        due("with an empty row", new Deskhand().right("").desk.rank(0, 0), NONE);
        due("with a wrong one", new Deskhand().wrong("ab").desk.rank(0, 0), NONE);
        Deskhand one = new Deskhand().right("h");
        due("with one row of one call, none of which holds", one.ranks(0, 7), "ha hb hc hd he hf hg");
        due("and no more", one.desk.rank(7, 0), NONE);
    }

    private void ranksOfUnlikeCalls() {
        sentence(Document.TERMS, "x and y unlike");
        Deskhand all = new Deskhand().right("abcdefgh");
        due("the first of all", all.ranks(0, 8), "ab ac ad ae af ag ah bc");
        due("the last of all", all.ranks(54, 56), "hf hg");
        due("56 of all", all.desk.rank(56, 0), NONE);
        Deskhand twice = new Deskhand().right("aa");
        due("not a with a", twice.ranks(0, 7), "ab ac ad ae af ag ah");
    }

    private void sharesAreComparedExactly() {
        sentence(Document.TERMS, "the greatest share of these first (compared exactly)");
        // 29 of 57 is more than 30 of 59 by one of 3363
        Deskhand near = near();
        due("rows with a", near.desk.habit(0, 1, 0), 57);
        due("a b", near.desk.habit(0, 1, 1), 29);
        due("rows with c", near.desk.habit(2, 3, 0), 59);
        due("c d", near.desk.habit(2, 3, 1), 30);
        due("29 of 57 twice, then 30 of 59", near.ranks(0, 5), "bc da ab ac cd");
        Deskhand whole = new Deskhand().right("ab", "cd", "cd", "c");
        due("all of one ahead of two of three", whole.ranks(0, 2), "ab cd");
        Deskhand none = new Deskhand().right("ab", "a", "a", "a", "cc", "cc", "cc", "cc", "cc");
        due("one of four ahead of none of five", none.ranks(0, 2), "ab ca");
    }

    /** 59 ROWS with c, 57 with a; behind 29 of the a comes b, behind 30 of the c comes d. */
    private static Deskhand near() {
        Deskhand h = new Deskhand();
        for (int row = 0; row < 59; row++) {
            h.right(row < 29 ? "abc" : row < 57 ? "cda" : "cd");
        }
        return h;
    }

    private void alikeSharesByRows() {
        sentence(Document.TERMS, "of alike ones those with more ROWS with x");
        Deskhand h = new Deskhand().right("ab", "a", "cd", "cd", "c", "c");
        due("two of four ahead of one of two", h.ranks(0, 2), "cd ab");
        Deskhand whole = new Deskhand().right("ab", "hg", "hg");
        due("two of two ahead of one of one", whole.ranks(0, 2), "hg ab");
        Deskhand none = new Deskhand().right("a", "b", "b");
        due("none of two ahead of none of one", none.ranks(0, 8), "ba bc bd be bf bg bh ab");
    }

    private void alikeSharesByCalls() {
        sentence(Document.TERMS, "then by x, then by y");
        due("by x, then by y", new Deskhand().right("ba", "hcb").ranks(0, 4), "cb hb hc ba");
        due("by x", new Deskhand().right("hg", "ba").ranks(0, 2), "ba hg");
        due("by y", new Deskhand().right("ahb").ranks(0, 3), "ab ah hb");
    }

    private void rankTellsXAndY() {
        sentence(20, "The k-th HABIT in RANK: x (0) or y (1)");
        UsageDesk d = new Deskhand().right("hg").desk;
        due("x of the first", d.rank(0, 0), 7);
        due("y of the first", d.rank(0, 1), 6);
        due("x of the second", d.rank(1, 0), 6);
        due("y of the second", d.rank(1, 1), 0);
        due("x of the last", d.rank(13, 0), 7);
        due("y of the last", d.rank(13, 1), 5);
    }

    private void rankTellsNoneBeside() {
        sentence(20, "NONE without one");
        UsageDesk none = new UsageDesk();
        UsageDesk two = new Deskhand().right("hg").desk;
        UsageDesk all = new Deskhand().right("abcdefgh").desk;
        for (int what = 0; what < 2; what++) {
            due("the first of none", none.rank(0, what), NONE);
            for (int k : new int[] {LOWEST, -1, 14, 15, 55, 56, 63, 64, HIGHEST}) {
                due("rank(" + k + ", " + what + ") of 14", two.rank(k, what), NONE);
            }
            for (int k : new int[] {LOWEST, -1, 56, 57, 63, 64, HIGHEST}) {
                due("rank(" + k + ", " + what + ") of 56", all.rank(k, what), NONE);
            }
        }
    }

    private void rankOfAnotherWhat() {
        sentence(20, "IllegalArgumentException: another what");
        UsageDesk none = new UsageDesk();
        UsageDesk some = new Deskhand().right("hg").desk;
        throwing("rank of none", ARGUMENT, what -> none.rank(0, what), NO_WHAT);
        throwing("rank of some", ARGUMENT, what -> some.rank(0, what), NO_WHAT);
        throwing("rank beside them", ARGUMENT, what -> some.rank(14, what), NO_WHAT);
        throwing("rank ahead of them", ARGUMENT, what -> some.rank(-1, what), NO_WHAT);
    }
}
