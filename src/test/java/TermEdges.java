import java.util.Random;

/** What the desk is, and the sentences of the Terms that say how it goes rather than where it ends. */
final class TermEdges extends Edges {
    /** Rows of which all but the last two NODES must be KEPT, with b MELTED into a. */
    private static final String[] FORK = {"ace", "adf", "bc"};
    private static final String[] FORK_WRONG = {"c", "e", "ae", "f", "af", "acf"};

    TermEdges(Checks checks, Document document) {
        super(checks, document);
    }

    @Override
    void run() {
        rowsOfTwoKinds();
        quarrelsAreTold();
        machineTakesWhatWentWell();
        madeByARule();
        fewestStates();
        routinesOnAllWays();
        rowsAreMended();
        habitsByShares();
        machineOfStatesAndSteps();
        takesByStepsFromStateZero();
        theTreeAtFirst();
        twoBecomeOne();
        theLeastNumber();
        nodeByNode();
        theFirstKeptOne();
        statesAreThoseKept();
        waysOfTexts();
        cleanOrBroken();
        keptTakenOutOrPut();
        habitsOfTwoCalls();
    }

    private void rowsOfTwoKinds() {
        sentence(Document.TERMS, "A desk that learns how a thing wants to be called from those who use it: "
                + "rows of calls that went well and rows whose last call was refused");
        Deskhand h = new Deskhand().right("ab", "").wrong("b").right("aba").wrong("aa");
        due("which are right", h.toldOfAll(1), "1 1 0 1 0");
        due("learn", learnt(h), "2: 0a1:3 1b0:2");
    }

    private static String learnt(Deskhand h) {
        int states = h.desk.learn();
        return states + ": " + h.law();
    }

    private void quarrelsAreTold() {
        sentence(Document.TERMS, "what quarrels is told and left out");
        Deskhand h = new Deskhand().right("abc", "ac").wrong("ab", "b");
        due("cut and left out", h.toldOfAll(3), "1 2 1 0");
        due("learn of the rest", learnt(h), "1: 0a0:2 0c0:1");
    }

    private void machineTakesWhatWentWell() {
        sentence(Document.TERMS, "a machine that takes all that went well and nothing that was refused");
        for (int seed = 0; seed < 60; seed++) {
            Random random = new Random(seed);
            Deskhand h = new Deskhand();
            String[] rows = new String[16];
            for (int row = 0; row < rows.length; row++) {
                rows[row] = madeUp(random, 2 + seed % 3, 1 + random.nextInt(6));
                h.row(rows[row], row % 2 == 0);
            }
            due("learn " + seed, h.desk.learn() > 0, true);
            for (int row = 0; row < rows.length; row++) {
                h.desk.empty();
                int takes = h.push(rows[row]).desk.takes();
                int standing = h.desk.told(row, 3);
                boolean due = row % 2 == 0 ? takes >= standing : standing == 1 || takes < rows[row].length();
                due("seed " + seed + ", row " + rows[row], due, true);
            }
        }
    }

    private static String madeUp(Random random, int letters, int size) {
        StringBuilder calls = new StringBuilder();
        for (int i = 0; i < size; i++) {
            calls.append((char) ('a' + random.nextInt(letters)));
        }
        return calls.toString();
    }

    private void madeByARule() {
        sentence(Document.TERMS, "made by a told rule, with how often each step was seen");
        due("the same rows, the same law", learnt(fork()), learnt(fork()));
        Deskhand turned = new Deskhand().wrong(FORK_WRONG).right("bc", "adf", "ace");
        due("in whatever order they are told", learnt(turned), learnt(fork()));
        due("seen of each", learnt(new Deskhand().right("aab", "ab").wrong("b")), "2: 0a1:2 1a1:1 1b0:2");
    }

    private static Deskhand fork(String... more) {
        return new Deskhand().right(FORK).wrong(FORK_WRONG).wrong(more);
    }

    private void fewestStates() {
        sentence(Document.TERMS, "the fewest states that can do");
        sentence(Document.TERMS, "LEAST: how many STATES a MACHINE has at least");
        // LEARN melts ba with the first node at once, and must then keep baa
        Deskhand h = new Deskhand().right("baa").wrong("aa");
        due("learn", h.desk.learn(), 3);
        due("least", h.desk.least(), 2);
        Deskhand chain = new Deskhand().right("aa").wrong("aaa");
        due("learn of a chain", chain.desk.learn(), 3);
        due("least of a chain", chain.desk.least(), 3);
    }

    private void routinesOnAllWays() {
        sentence(Document.TERMS, "routines held against it on all their ways, with the shortest break");
        Deskhand h = alternating();
        due("the way that breaks is the last one", h.breakOf("(ab|abab|aba|abb)"), "abb");
        due("all go wrong, the shortest one is told", h.breakOf("(abaa|abb|aa)"), "aa");
        due("all go well", h.breakOf("(ab|abab|aba|)"), "");
    }

    /** A law of two states that takes ab again and again. */
    private static Deskhand alternating() {
        Deskhand h = new Deskhand().right("ab").wrong("b");
        h.desk.learn();
        return h;
    }

    private void rowsAreMended() {
        sentence(Document.TERMS, "rows mended by the fewest changes");
        for (int seed = 0; seed < 30; seed++) {
            Random random = new Random(seed);
            Deskhand h = fork();
            h.desk.learn();
            String row = madeUp(random, 8, 1 + random.nextInt(8));
            h.push(row);
            int takes = h.desk.takes();
            int cost = h.desk.mend();
            due("seed " + seed + ", what comes of " + row + " is taken", h.desk.takes(), h.desk.count(4));
            due("seed " + seed + ", none is changed where all are taken", cost == 0, takes == row.length());
            due("seed " + seed + ", never more than all", cost <= row.length() - takes, true);
            due("seed " + seed + ", mended again", h.desk.mend(), 0);
        }
    }

    private void habitsByShares() {
        sentence(Document.TERMS, "and habits by exact shares");
        Deskhand h = new Deskhand().right("ab", "ab", "ab", "a", "cd", "cd", "c", "ef", "e", "ef", "ef", "ef");
        // ef 4/5, ab 3/4, cd 2/3: told to the hundredth or not
        due("the greatest share first", h.ranks(0, 3), "ef ab cd");
    }

    private void machineOfStatesAndSteps() {
        sentence(Document.TERMS, "A MACHINE has STATES and STEPS from one to one by a CALL, at most one from each by each");
        Deskhand h = fork("acea", "acec", "acee", "acef");
        int states = h.desk.learn();
        int steps = 0;
        for (int state = 0; state < states; state++) {
            for (int call = 0; call < 8; call++) {
                int to = h.desk.step(state, call);
                due("step(" + state + ", " + call + ") leads to a state or nowhere", to >= NONE && to < states, true);
                due("it was seen if it is there", h.desk.seen(state, call) > 0, to != NONE);
                steps += to == NONE ? 0 : 1;
            }
        }
        due("states", h.desk.count(2), states);
        due("steps", h.desk.count(3), steps);
    }

    private void takesByStepsFromStateZero() {
        sentence(Document.TERMS, "it TAKES a row if from STATE 0 on there is a STEP for each of its CALLS");
        Deskhand h = alternating();
        due("a row from state 0", h.push("aba").desk.takes(), 3);
        h.desk.empty();
        due("a row from state 1 alone", h.push("bab").desk.takes(), 0);
        h.desk.empty();
        due("no calls", h.desk.takes(), 0);
        due("as a way", h.breakOf("aba"), "");
        due("as a way from state 1 alone", h.breakOf("bab"), "b");
    }

    private void theTreeAtFirst() {
        sentence(Document.TERMS, "TREE: NODES");
        sentence(Document.TERMS, "LEARN: the MACHINE is the TREE at first.");
        // abd may be c, and nothing else may be another
        due("a law that is the tree but for its last leaf", learnt(new Deskhand().right("abd", "c")
                .wrong("aa", "cc", "cb", "aba", "abb", "cd", "abda", "abdb")), "4: 0a1:1 0c2:1 1b3:1 3d2:1");
        due("no rows, no steps", learnt(new Deskhand()), "1: ");
    }

    private void twoBecomeOne() {
        sentence(Document.TERMS, "MELTING two STATES: they become one; where it has two STEPS by one CALL then");
        Deskhand h = new Deskhand().right("ac", "bcd").wrong("c", "d", "ad");
        due("a and b are one, and so ac and bc", learnt(h), "3: 0a1:1 0b1:1 1c2:2 2d0:1");
        due("not where acd would be taken", learnt(h.wrong("acd")), "3: 0a1:1 0b2:1 1c0:1 2c2:1 2d0:1");
    }

    private void theLeastNumber() {
        sentence(Document.TERMS, "it has the least number of those that it was.");
        // ac and bc are one; with bc's number it would come behind ad
        due("ac, which is bc, too, ahead of ad", learnt(fork()), "4: 0a1:2 0b1:1 1c2:2 1d3:1 2e0:1 3f0:1");
    }

    private void nodeByNode() {
        sentence(Document.TERMS, "KEPT is NODE 0 at first. NODE by NODE, from 1 on, in order: "
                + "one that was MELTED into a lower one is passed by.");
        due("node 0", learnt(new Deskhand().right("a")), "1: 0a0:1");
        // either of a and b may be node 0, not both
        due("a ahead of b", learnt(new Deskhand().right("b", "a").wrong("aba")), "2: 0a0:1 0b1:1");
        due("the other way round", learnt(new Deskhand().right("b", "a").wrong("bab")), "2: 0a0:1 0b1:1");
        due("the shorter one ahead", learnt(new Deskhand().right("ab", "b").wrong("ba")), "2: 0a0:1 0b1:2");
        due("all passed by but one", learnt(new Deskhand().right("abababababab")), "1: 0a0:6 0b0:6");
    }

    private void theFirstKeptOne() {
        sentence(Document.TERMS, "Else with each KEPT one, in the order in which they were KEPT, it is tried: "
                + "the first one with which, MELTED, the MACHINE TAKES no WRONG ROW");
        sentence(Document.TERMS, "it is MELTED with; without one it is KEPT.");
        String start = "4: 0a1:2 0b1:1 1c2:2 1d3:1 ";
        due("ace with the first", learnt(fork()), start + "2e0:1 3f0:1");
        due("with the second", learnt(fork("acea")), start + "2e1:1 3f0:1");
        due("with the third", learnt(fork("acea", "acec")), start + "2e2:1 3f0:1");
        due("with the last", learnt(fork("acea", "acec", "acee")), start + "2e3:1 3f0:1");
        due("with none", learnt(fork("acea", "acec", "acee", "acef")), "5" + start.substring(1) + "2e4:1 3f0:1");
    }

    private void statesAreThoseKept() {
        sentence(Document.TERMS, "STATES of the LAW are those KEPT, numbered from 0 on in that order.");
        Deskhand h = new Deskhand().right("ba", "ab", "cd").wrong("aa", "bb", "cc", "ac", "ca", "bc", "cb", "bd", "ad", "d");
        due("by the number of their nodes", learnt(h), "4: 0a1:1 0b2:1 0c3:1 1b0:1 2a0:1 3d0:1");
    }

    private void waysOfTexts() {
        sentence(Document.TERMS, "ROUTINES: texts: S to the end");
        sentence(Document.TERMS, "A = a letter a to h, or \"(\" S { \"|\" S } \")\"");
        sentence(Document.TERMS, "A WAY: a row of CALLS that comes of it");
        Deskhand h = new Deskhand().right("abcdefgh");
        h.desk.learn();
        due("all letters are calls", h.breakOf("abcdefgh"), "");
        Deskhand none = new Deskhand();
        String[] letters = {"a", "b", "c", "d", "e", "f", "g", "h"};
        for (String letter : letters) {
            due("a way of " + letter, none.breakOf(letter), letter);
            due("a way of (" + letter + ")", none.breakOf("(" + letter + ")"), letter);
        }
    }

    private void cleanOrBroken() {
        sentence(Document.TERMS, "HELD against the LAW a ROUTINE is CLEAN if the LAW TAKES all of its WAYS. Else its BREAK");
        Deskhand h = alternating();
        due("of one way", h.breakOf("aba"), "");
        due("of many", h.breakOf("(ab)*(a|)"), "");
        due("all but one", h.breakOf("(ab)*(a|b)"), "b");
        due("none", h.breakOf("b(a|b)*"), "b");
    }

    private void keptTakenOutOrPut() {
        sentence(Document.TERMS, "MENDED: a row is gone through from its first CALL on; at each place the next CALL is kept");
        sentence(Document.TERMS, "taken out, or any CALL (for which there is a STEP) is put ahead of it");
        sentence(Document.TERMS, "of these ways the first one");
        Deskhand h = fork();
        h.desk.learn();
        due("all kept", h.mended("acebc"), "acebc 0");
        due("one taken out", h.mended("ahc"), "ac 1");
        due("c put, for a step by a is not there", h.mended("aebc"), "acebc 1");
        due("d put, for f has no step behind c", h.mended("afbc"), "adfbc 1");
        due("a put at the first place, not b", h.mended("ceac"), "aceac 1");
        due("the first a is kept, the second one taken out", h.mended("aace"), "ace 1");
    }

    private void habitsOfTwoCalls() {
        sentence(Document.TERMS, "HABIT x y (two CALLS)");
        Deskhand h = new Deskhand().right("ab", "ac", "h");
        due("a b", h.desk.habit(0, 1, 1), 1);
        due("b a", h.desk.habit(1, 0, 1), 0);
        due("a a, which never holds", h.desk.habit(0, 0, 1), 0);
        due("rows with a", h.desk.habit(0, 0, 0), 2);
        due("rows with h", h.desk.habit(7, 0, 0), 1);
    }
}
