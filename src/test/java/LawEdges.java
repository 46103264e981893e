/** Promises 8 to 13: learn, step, seen, doubt, takes, least. */
final class LawEdges extends Edges {
    private static final String TWELVE = "a".repeat(12);

    LawEdges(Checks checks, Document document) {
        super(checks, document);
    }

    @Override
    void run() {
        treeHasTheEmptyNodeAlways();
        nodesByLengthThenByCalls();
        meltingGoesOn();
        leftOutOnesDoNotBind();
        spentBehindThirty();
        eachRowIsCounted();
        lawStaysWhateverBecomesOfRows();
        learnTellsHowManyStates();
        learnSpentLeavesTheLaw();
        stepLeadsToAState();
        stepWithoutOne();
        stepOfNoState();
        seenOfAStep();
        seenWithoutOne();
        doubtCountsSteps();
        takesEmptyAndWhole();
        takesFromTheFirstOneOn();
        leastIsOneToFour();
        leastIsOfTheRowsThatAreThere();
        leastIsLeast();
        leastOfSixteenNodes();
    }

    private void treeHasTheEmptyNodeAlways() {
        sentence(Document.TERMS, "NODES are all beginnings of CUT ROWS (the empty one, too, always)");
        due("without rows", nodes(new Deskhand()), 1);
        due("with an empty row", nodes(new Deskhand().right("")), 1);
        due("with wrong ones alone", nodes(new Deskhand().wrong("abc", "a")), 1);
        due("with a row that is cut to nothing", nodes(new Deskhand().right("abc").wrong("a")), 1);
        due("with two like rows", nodes(new Deskhand().right("abc", "abc")), 4);
        due("with a row and its beginning", nodes(new Deskhand().right("abc", "ab")), 4);
        due("with rows that part", nodes(new Deskhand().right("abc", "abd", "b")), 6);
        due("with a cut one", nodes(new Deskhand().right("abc", "abd").wrong("abd")), 4);
        due("with the longest one", nodes(new Deskhand().right(TWELVE)), 13);
        Deskhand dropped = new Deskhand().right("abc");
        dropped.desk.drop(0);
        due("with a dropped one", nodes(dropped), 1);
    }

    private static int nodes(Deskhand h) {
        return h.desk.count(6);
    }

    private void nodesByLengthThenByCalls() {
        sentence(Document.TERMS, "numbered from 0 on by length, those of one length by their CALLS, letter by letter");
        due("the shorter one first", learnt(new Deskhand().right("ab", "b").wrong("aa", "bb", "ba", "aba", "abb")),
                "3: 0a1:1 0b2:1 1b2:1");
        // ah is ahead of ba, though its last letter is behind
        due("by the first letter", learnt(new Deskhand().right("ba", "ahc")
                .wrong("aa", "bb", "bh", "aha", "ahh", "bab", "bah", "baa", "bac")), "5: 0a1:1 0b2:1 1h3:1 2a4:1 3c0:1");
    }

    private void meltingGoesOn() {
        sentence(Document.TERMS, "what these lead to is MELTED, too, and so on");
        due("one on", learnt(new Deskhand().right("aab", "ab").wrong("b")), "2: 0a1:2 1a1:1 1b0:2");
        due("two on, where a wrong row would be taken", learnt(new Deskhand().right("aabc", "ab").wrong("b", "abc")),
                "3: 0a1:2 1a2:1 1b0:1 1c0:1 2b1:1");
        due("twelve on", learnt(new Deskhand().right("ab".repeat(6), "b" + "ab".repeat(5)).wrong("aa", "bb")),
                "3: 0a1:6 0b2:6 1b0:6 2a0:5");
    }

    private void leftOutOnesDoNotBind() {
        sentence(Document.TERMS, "the MACHINE TAKES no WRONG ROW (but those left out)");
        due("one that binds, told first", learnt(new Deskhand().wrong("aa").right("a")), "2: 0a1:1");
        due("one that binds", learnt(new Deskhand().right("a").wrong("aa")), "2: 0a1:1");
        due("one left out", learnt(new Deskhand().right("aa").wrong("aa")), "1: 0a0:1");
        Deskhand dropped = new Deskhand().right("a").wrong("aa");
        dropped.desk.drop(1);
        due("one dropped", learnt(dropped), "1: 0a0:1");
        due("one of twelve calls", learnt(new Deskhand().right("aaa").wrong(TWELVE)), "4: 0a1:1 1a2:1 2a3:1");
        due("one no machine could take", learnt(new Deskhand().right("aaa").wrong("h")), "1: 0a0:3");
    }

    private static String learnt(Deskhand h) {
        int states = h.desk.learn();
        return states + ": " + h.law();
    }

    private void spentBehindThirty() {
        sentence(Document.TERMS, "It is SPENT, if there would be more than 30 KEPT.");
        due("29", new Deskhand().chains(5).barChains(5).desk.learn(), 29);
        due("30", new Deskhand().chains(6).barChains(6).desk.learn(), 30);
        due("31", new Deskhand().chains(7).barChains(7).desk.learn(), -1);
    }

    private void eachRowIsCounted() {
        sentence(Document.TERMS, "SEEN of a STEP: how often CUT ROWS (each counted) go over it.");
        due("like rows", learnt(new Deskhand().right("a", "a", "a")), "1: 0a0:3");
        due("one row that goes over it again and again", learnt(new Deskhand().right(TWELVE)), "1: 0a0:12");
        due("cut ones as far as they go", learnt(new Deskhand().right("aab", "aab", "aa").wrong("aab")), "1: 0a0:6");
        due("not one cut to nothing", learnt(new Deskhand().right("ab", "b").wrong("a")), "1: 0b0:1");
        Deskhand dropped = new Deskhand().right("a", "ab");
        dropped.desk.drop(1);
        due("not a dropped one", learnt(dropped), "1: 0a0:1");
        due("not as it was learnt before", learnt(dropped), "1: 0a0:1");
    }

    private void lawStaysWhateverBecomesOfRows() {
        sentence(Document.TERMS, "The LAW stays as it was LEARNT, whatever becomes of ROWS.");
        Deskhand h = new Deskhand().right("ab", "abab").wrong("b");
        due("learn", h.desk.learn(), 2);
        due("law", h.law(), "0a1:3 1b0:3");
        h.right("h").wrong("a", "hh");
        due("behind more rows", h.law(), "0a1:3 1b0:3");
        for (int row = 0; row < 6; row++) {
            h.desk.drop(row);
        }
        due("behind all dropped", h.law(), "0a1:3 1b0:3");
        due("nodes were counted", h.desk.count(6), 1);
        due("the least was told", h.desk.least(), 1);
        due("and the law stays", h.law(), "0a1:3 1b0:3");
        due("until it is learnt again", learnt(h), "1: ");
    }

    private void learnTellsHowManyStates() {
        sentence(8, "LEARN: how many STATES");
        due("of no rows", new UsageDesk().learn(), 1);
        due("of an empty row", new Deskhand().right("").desk.learn(), 1);
        due("of wrong ones alone", learnt(new Deskhand().wrong("a", "bcd")), "1: ");
        due("of two", new Deskhand().right("a").wrong("aa").desk.learn(), 2);
        due("of twelve", new Deskhand().right("a".repeat(11)).wrong(TWELVE).desk.learn(), 12);
        Deskhand h = new Deskhand().right(TWELVE);
        due("of one", h.desk.learn(), 1);
        due("count(2)", h.desk.count(2), 1);
    }

    private void learnSpentLeavesTheLaw() {
        sentence(8, "-1: SPENT, and the LAW stays");
        Deskhand h = new Deskhand().chains(7);
        due("learn ahead of it", learnt(h), "1: 0a0:11 0b0:1 0c0:1 0d0:10 0e0:1 0f0:7 0g0:1");
        h.barChains(7);
        due("learn", h.desk.learn(), -1);
        due("law", h.law(), "0a0:11 0b0:1 0c0:1 0d0:10 0e0:1 0f0:7 0g0:1");
        due("doubt", h.desk.doubt(2), 4);
        due("learn again", h.desk.learn(), -1);
        Deskhand never = new Deskhand().chains(7).barChains(7);
        due("learn, and never before", never.desk.learn(), -1);
        due("states", never.desk.count(2), 1);
        due("steps", never.desk.count(3), 0);
        never.desk.drop(0);
        due("with one row less", never.desk.learn(), 23);
    }

    private void stepLeadsToAState() {
        sentence(9, "The STATE to which a STEP leads");
        Deskhand h = new Deskhand().right("h".repeat(11)).wrong("h".repeat(12));
        due("learn", h.desk.learn(), 12);
        for (int state = 0; state < 11; state++) {
            due("step from " + state, h.desk.step(state, 7), state + 1);
        }
        Deskhand loop = new Deskhand().right("ah");
        due("learn of a loop", loop.desk.learn(), 1);
        due("step by the first call", loop.desk.step(0, 0), 0);
        due("step by the last call", loop.desk.step(0, 7), 0);
    }

    private void stepWithoutOne() {
        sentence(9, "NONE without one");
        Deskhand h = new Deskhand().right("h".repeat(11)).wrong("h".repeat(12));
        due("ahead of learning", h.desk.step(0, 7), NONE);
        h.desk.learn();
        due("from the last state", h.desk.step(11, 7), NONE);
        for (int call = 0; call < 7; call++) {
            due("step by " + call, h.desk.step(0, call), NONE);
        }
    }

    private void stepOfNoState() {
        sentence(9, "IndexOutOfBoundsException: no such STATE (so below)");
        Deskhand h = new Deskhand().right("a").wrong("aa");
        noSuchState("ahead of learning", h, 1);
        h.desk.learn();
        noSuchState("of two", h, 2);
        h.desk.drop(1);
        due("learn of one", h.desk.learn(), 1);
        noSuchState("of one again", h, 1);
        Deskhand thirty = new Deskhand().chains(6).barChains(6);
        due("learn of thirty", thirty.desk.learn(), 30);
        due("the step into the last one", thirty.desk.step(27, 3), 29);
        due("the step from the last one", thirty.desk.step(29, 6), 0);
        due("which was seen", thirty.desk.seen(29, 6), 1);
        noSuchState("of thirty", thirty, 30);
    }

    private void noSuchState(String when, Deskhand h, int states) {
        int[] wrong = {LOWEST, -1, states, states + 1, 31, HIGHEST};
        throwing("step " + when, INDEX, state -> h.desk.step(state, 0), wrong);
        throwing("seen " + when, INDEX, state -> h.desk.seen(state, 0), wrong);
        throwing("step by no call " + when, INDEX, state -> h.desk.step(state, 8), wrong);
        throwing("seen by no call " + when, INDEX, state -> h.desk.seen(state, 8), wrong);
        throwing("step by no call from the last " + when, ARGUMENT, call -> h.desk.step(states - 1, call), NO_CALL);
        throwing("seen by no call from the last " + when, ARGUMENT, call -> h.desk.seen(states - 1, call), NO_CALL);
    }

    private void seenOfAStep() {
        sentence(10, "SEEN of a STEP");
        Deskhand h = new Deskhand();
        for (int row = 0; row < 30; row++) {
            h.right(TWELVE);
        }
        h.right("h");
        h.desk.learn();
        due("360 times", h.desk.seen(0, 0), 360);
        due("once", h.desk.seen(0, 7), 1);
    }

    private void seenWithoutOne() {
        sentence(10, "0 without one");
        Deskhand h = new Deskhand().right("a").wrong("aa");
        due("ahead of learning", h.desk.seen(0, 0), 0);
        h.desk.learn();
        due("from the last state", h.desk.seen(1, 0), 0);
        due("by another call", h.desk.seen(0, 7), 0);
        h.desk.drop(0);
        h.desk.learn();
        due("of a step that is no more", h.desk.seen(0, 0), 0);
    }

    private void doubtCountsSteps() {
        sentence(11, "How many STEPS of the LAW were SEEN fewer times than n");
        Deskhand h = new Deskhand().right("aaab", "b", "h");
        due("ahead of learning", h.desk.doubt(HIGHEST), 0);
        h.desk.learn();
        due("law", h.law(), "0a0:3 0b0:2 0h0:1");
        int[] numbers = {LOWEST, -1, 0, 1, 2, 3, 4, HIGHEST};
        int[] dues = {0, 0, 0, 0, 1, 2, 3, 3};
        for (int i = 0; i < numbers.length; i++) {
            due("doubt(" + numbers[i] + ")", h.desk.doubt(numbers[i]), dues[i]);
        }
        Deskhand chain = new Deskhand().right("a".repeat(11)).wrong(TWELVE);
        chain.desk.learn();
        due("steps from all states", chain.desk.doubt(2), 11);
    }

    private void takesEmptyAndWhole() {
        sentence(12, "How many CALLS of the HAND (it stays) the LAW takes");
        Deskhand h = new Deskhand().right("ab").wrong("b");
        due("by the first law", h.push("ab").desk.takes(), 0);
        h.desk.empty();
        h.desk.learn();
        due("of none", h.desk.takes(), 0);
        h.push("abababababab");
        due("of twelve", h.desk.takes(), 12);
        due("the hand stays", h.hand(), "abababababab");
        due("of twelve again", h.desk.takes(), 12);
    }

    private void takesFromTheFirstOneOn() {
        sentence(12, "from its first one on");
        Deskhand h = new Deskhand().right("ab").wrong("b");
        h.desk.learn();
        due("not the first one", h.push("bababa").desk.takes(), 0);
        h.desk.empty();
        due("not the last one of twelve", h.push("abababababaa").desk.takes(), 11);
        due("the hand stays", h.hand(), "abababababaa");
        h.desk.empty();
        due("not those behind a refused one", h.push("aababab").desk.takes(), 1);
        due("one that is in no row", h.push("h").desk.takes(), 1);
    }

    private void leastIsOneToFour() {
        sentence(Document.TERMS, "that TAKES all CUT ROWS and no WRONG one (but those left out): 1 to 3; 4 for more.");
        due("none", new UsageDesk().least(), 1);
        due("wrong ones alone", new Deskhand().wrong("a", "aa").desk.least(), 1);
        for (int size = 1; size <= 11; size++) {
            Deskhand h = new Deskhand().right("a".repeat(size)).wrong("a".repeat(size + 1));
            due("a chain of " + size, h.desk.least(), Math.min(size + 1, 4));
        }
        due("a wrong one told first", new Deskhand().wrong("aaa").right("aa").desk.least(), 3);
        due("left out ones", new Deskhand().right("aaa").wrong("aaa", "aa").desk.least(), 1);
        due("one left out and one that binds", new Deskhand().right("aaa").wrong("aaa", "aaaa").desk.least(), 3);
    }

    private void leastIsOfTheRowsThatAreThere() {
        sentence(Document.TERMS, "(Told of the ROWS that are there, if the TREE has 16 NODES at most.)");
        Deskhand h = new Deskhand().right("aa").wrong("aaa");
        due("least", h.desk.least(), 3);
        h.desk.drop(1);
        due("without the wrong one", h.desk.least(), 1);
        h.right(TWELVE, "b", "c", "d");
        due("of 16 nodes", h.desk.least(), 1);
        h.right("ab");
        due("of 17 nodes", h.desk.least(), NONE);
        h.desk.drop(3);
        due("of 16 nodes again", h.desk.least(), 1);
    }

    /** Trees of 16 NODES: the least, RIGHT ROWS, WRONG ROWS. */
    private static final String[][] SIXTEEN = {
        {"2", "aaba cbda bcdb dabbab", "bdad dbacb aa cab ca"}, {"2", "dcab cdcbc dbbccca", "a aa bc"},
        {"2", "c cdcdc cdbdd bbcddba", "ccadd bddcb aacc adc"}, {"3", "ccac baba aa ccbcbbc", "ca acab abccc bcca"},
        {"3", "bacb baabb cb aaaaab", "cab ac bc cbacc"}, {"3", "bdbbb dcca cddbdc", "ac dddd abc"},
        {"3", "caacbbc accc bcba", "bab cca bcca bcbba"}, {"4", "ddc aaaddb d cbccdd", "bb bad aaaa"},
        {"4", "aabaa abbbb b bbaaaa", "abaaa aabab"}, {"4", "bbbb cccccb cbccac", "baacb bc ccb abcc aba"}};

    private void leastIsLeast() {
        sentence(13, "LEAST");
        // LEARN melts ba with the first node at once, and must then keep baa
        Deskhand h = new Deskhand().right("baa").wrong("aa");
        due("learn", h.desk.learn(), 3);
        due("fewer can do", h.desk.least(), 2);
        due("the law has as many as before", h.desk.count(2), 3);
        Deskhand four = new Deskhand().right("aaa").wrong("aaaa");
        due("told ahead of learning", four.desk.least(), 4);
        due("which learns nothing", four.desk.count(2), 1);
        for (String[] rows : SIXTEEN) {
            Deskhand full = new Deskhand().right(rows[1].split(" ")).wrong(rows[2].split(" "));
            due("nodes of " + rows[1], full.desk.count(6), 16);
            due("least of " + rows[1], full.desk.least(), Integer.parseInt(rows[0]));
        }
    }

    private void leastOfSixteenNodes() {
        sentence(13, "NONE: the TREE has more than 16 NODES");
        Deskhand sixteen = new Deskhand().right("aaaa", "baaaa", "caaaaa").wrong("aaaaa");
        due("nodes", sixteen.desk.count(6), 16);
        due("least of 16", sixteen.desk.least(), 4);
        sixteen.right("d");
        due("nodes then", sixteen.desk.count(6), 17);
        due("least of 17", sixteen.desk.least(), NONE);
        due("least of many", new Deskhand().right(TWELVE, "b".repeat(12), "c".repeat(12)).desk.least(), NONE);
        Deskhand cut = new Deskhand().right(TWELVE, "b".repeat(12)).wrong("bbbb");
        due("nodes with a cut row", cut.desk.count(6), 16);
        due("least of them", cut.desk.least(), 1);
    }
}
