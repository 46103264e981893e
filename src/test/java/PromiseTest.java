/** The document's promises, one method each: ordinary inputs, edges and wrong inputs. */
public final class PromiseTest {
    private static final Class<IllegalArgumentException> ARGUMENT = IllegalArgumentException.class;
    private static final Class<IndexOutOfBoundsException> INDEX = IndexOutOfBoundsException.class;
    private static final int NONE = UsageDesk.NONE;

    private final Checks checks = new Checks();

    public static void main(String[] args) {
        PromiseTest test = new PromiseTest();
        test.newObject();
        test.push();
        test.emptyAndHand();
        test.row();
        test.drop();
        test.told();
        test.learn();
        test.learnByTheRule();
        test.learnSpent();
        test.stepAndSeen();
        test.doubt();
        test.takes();
        test.least();
        test.feed();
        test.routinePlaces();
        test.routine();
        test.hold();
        test.holdShortestAndFirst();
        test.broken();
        test.mend();
        test.mendTooLong();
        test.habit();
        test.rank();
        test.count();
        test.checks.end();
    }

    private void due(String call, long got, long want) {
        checks.due(call, got, want);
    }

    private void due(String call, String got, String want) {
        checks.due(call, got, want);
    }

    private void newObject() {
        UsageDesk d = new UsageDesk();
        int[] counts = {0, 0, 1, 0, 0, 0, 1};
        for (int what = 0; what < counts.length; what++) {
            due("new: count " + what, d.count(what), counts[what]);
        }
        for (int call = 0; call < 8; call++) {
            due("new: step", d.step(0, call), NONE);
            due("new: seen", d.seen(0, call), 0);
        }
        due("new: hold", d.hold(), 0);
        due("new: broken", d.broken(0), NONE);
        due("new: mend", d.mend(), 0);
        due("new: takes", d.takes(), 0);
        due("new: rank", d.rank(0, 0), NONE);
        due("NONE", NONE, -1);
    }

    private void push() {
        UsageDesk d = new UsageDesk();
        for (int i = 0; i < 12; i++) {
            due("push", d.push(i % 8), i + 1);
        }
        due("push of a 13th", d.push(3), NONE);
        due("the hand stays", d.count(4), 12);
        due("its last call", d.hand(11), 3);
        for (int call : new int[] {-1, 8, Integer.MIN_VALUE, Integer.MAX_VALUE}) {
            checks.throwing("push " + call + " when full", ARGUMENT, () -> d.push(call));
            checks.throwing("push " + call, ARGUMENT, () -> new UsageDesk().push(call));
        }
        due("wrong pushes did nothing", d.count(4), 12);
    }

    private void emptyAndHand() {
        Deskhand h = new Deskhand().push("hca");
        due("hand", h.hand(), "hca");
        for (int k : new int[] {-1, 3, 12, Integer.MIN_VALUE, Integer.MAX_VALUE}) {
            due("hand " + k, h.desk.hand(k), NONE);
        }
        due("empty", h.desk.empty(), 3);
        due("hand of an empty one", h.desk.hand(0), NONE);
        due("empty again", h.desk.empty(), 0);
        due("push after it", h.desk.push(4), 1);
        due("hand after it", h.hand(), "e");
    }

    private void row() {
        Deskhand h = new Deskhand();
        due("a wrong one without calls", h.desk.row(false), -1);
        due("a right one without calls", h.desk.row(true), 0);
        due("row", h.row("abcdefghabcd", false), 1);
        due("the hand is empty", h.desk.count(4), 0);
        for (int i = 2; i < 60; i++) {
            due("row " + i, h.desk.row(true), i);
        }
        h.desk.drop(5);
        h.push("ab");
        due("a 61st, though one was dropped", h.desk.row(true), -2);
        due("and a wrong one", h.desk.row(false), -2);
        due("the hand stays", h.hand(), "ab");
        due("no more rows", h.desk.count(1), 60);
        h.desk.empty();
        due("a 61st right one without calls", h.desk.row(true), -2);
        due("a 61st wrong one without calls", h.desk.row(false), -1);
    }

    private void drop() {
        Deskhand h = new Deskhand().right("ab").wrong("b");
        due("drop", h.desk.drop(0) ? 1 : 0, 1);
        due("drop again", h.desk.drop(0) ? 1 : 0, 0);
        due("there", h.desk.count(0), 1);
        due("the next number", h.row("c", true), 2);
        for (int row : new int[] {-1, 3, 60, Integer.MIN_VALUE, Integer.MAX_VALUE}) {
            checks.throwing("drop " + row, INDEX, () -> h.desk.drop(row));
        }
    }

    private void told() {
        Deskhand h = new Deskhand().right("abcd", "abd", "").wrong("abc", "abcde", "ab", "cc");
        String[] due = {"1 1 4 1", "1 1 3 1", "1 1 0 0", "1 0 3 1", "1 0 5 0", "1 0 2 1", "1 0 2 0"};
        for (int row = 0; row < due.length; row++) {
            due("told of row " + row, toldAll(h, row), due[row]);
        }
        h.desk.drop(5);
        due("told of a dropped one", toldAll(h, 5), "0 0 2 0");
        due("cut by the next one", toldAll(h, 0), "1 1 4 2");
        due("whole without one", toldAll(h, 1), "1 1 3 3");
        h.desk.drop(0);
        due("told of a dropped right one", toldAll(h, 0), "0 1 4 0");
        due("no more left out", toldAll(h, 3), "1 0 3 0");
        h.row("abc", true);
        due("a right one that is the wrong one", toldAll(h, 7), "1 1 3 2");
        due("is left out again", toldAll(h, 3), "1 0 3 1");
        for (int what : new int[] {-1, 4, Integer.MIN_VALUE, Integer.MAX_VALUE}) {
            checks.throwing("told 0 " + what, ARGUMENT, () -> h.desk.told(0, what));
        }
        for (int row : new int[] {-1, 8, Integer.MIN_VALUE, Integer.MAX_VALUE}) {
            checks.throwing("told " + row + " 0", INDEX, () -> h.desk.told(row, 0));
            checks.throwing("told " + row + " 9", INDEX, () -> h.desk.told(row, 9));
        }
    }

    private static String toldAll(Deskhand h, int row) {
        StringBuilder all = new StringBuilder();
        for (int what = 0; what < 4; what++) {
            all.append(what == 0 ? "" : " ").append(h.desk.told(row, what));
        }
        return all.toString();
    }

    private void learn() {
        Deskhand h = new Deskhand();
        due("learn nothing", h.desk.learn(), 1);
        h.right("ab");
        due("learn without wrong ones", h.desk.learn(), 1);
        due("one state that takes all", h.law(), "0a0:1 0b0:1");
        h.wrong("b");
        due("the law stays until it is learnt", h.law(), "0a0:1 0b0:1");
        due("learn", h.desk.learn(), 2);
        due("its law", h.law(), "0a1:1 1b0:1");
        h.desk.drop(0);
        h.desk.drop(1);
        due("the law stays, whatever is dropped", h.law(), "0a1:1 1b0:1");
        due("learn of no rows", h.desk.learn(), 1);
        due("its steps", h.law(), "");
        due("a wrong row that is told first binds, too", learnt(new Deskhand().wrong("b").right("ab")), "2: 0a1:1 1b0:1");
        Deskhand quarrel = new Deskhand().right("ab", "abc").wrong("ab");
        due("one left out does not bind", quarrel.desk.learn(), 1);
        due("cut rows alone count", quarrel.law(), "0a0:2");
    }

    private void learnByTheRule() {
        due("counting to three", learnt(threes()), "3: 0a1:4 0b0:4 1a2:4 2a0:4");
        due("a chain that must end", learnt(new Deskhand().right("aaa").wrong("aaaa")),
                "4: 0a1:1 1a2:1 2a3:1");
        due("the first kept one that fits", learnt(new Deskhand().right("abc", "abbc").wrong("ac", "c")),
                "2: 0a0:2 0b1:2 1b1:1 1c0:2");
        due("nodes by length, then by calls", learnt(new Deskhand().right("ba", "ab").wrong("aa", "bb")),
                "3: 0a1:1 0b2:1 1b0:1 2a0:1");
        due("each row is counted, and each time", learnt(new Deskhand().right("aa", "aa", "a").wrong("b")),
                "1: 0a0:5");
    }

    /** Rows that make a law that takes b only behind a number of a that three divides. */
    private static Deskhand threes() {
        return new Deskhand().right("b", "aaab", "aaaaaab").wrong("ab", "aab").right("aaab").wrong("aaaaab");
    }

    private static String learnt(Deskhand h) {
        int states = h.desk.learn();
        return states + ": " + h.law();
    }

    private void learnSpent() {
        Deskhand thirty = new Deskhand().chains(6).barChains(6);
        due("thirty states", thirty.desk.learn(), 30);
        Deskhand more = new Deskhand().chains(7).barChains(7);
        due("thirty-one", more.desk.learn(), -1);
        due("the law stays", more.desk.count(2), 1);
        due("without steps", more.desk.count(3), 0);
        more.desk.drop(0);
        more.desk.drop(1);
        due("fewer again", more.desk.learn() > 0 ? 1 : 0, 1);
    }

    private void stepAndSeen() {
        Deskhand h = new Deskhand().right("ab", "abab").wrong("b");
        h.desk.learn();
        due("law", h.law(), "0a1:3 1b0:3");
        due("step without one", h.desk.step(0, 1), NONE);
        due("seen without one", h.desk.seen(0, 1), 0);
        for (int state : new int[] {-1, 2, 30, Integer.MIN_VALUE, Integer.MAX_VALUE}) {
            checks.throwing("step " + state, INDEX, () -> h.desk.step(state, 0));
            checks.throwing("seen " + state, INDEX, () -> h.desk.seen(state, 0));
            checks.throwing("step " + state + " 8", INDEX, () -> h.desk.step(state, 8));
            checks.throwing("seen " + state + " 8", INDEX, () -> h.desk.seen(state, 8));
        }
        for (int call : new int[] {-1, 8, Integer.MIN_VALUE, Integer.MAX_VALUE}) {
            checks.throwing("step by " + call, ARGUMENT, () -> h.desk.step(0, call));
            checks.throwing("seen by " + call, ARGUMENT, () -> h.desk.seen(1, call));
        }
    }

    private void doubt() {
        Deskhand h = new Deskhand().right("aab", "b", "c");
        h.desk.learn();
        due("law", h.law(), "0a0:2 0b0:2 0c0:1");
        int[][] dues = {{Integer.MIN_VALUE, 0}, {-1, 0}, {1, 0}, {2, 1}, {3, 3}, {Integer.MAX_VALUE, 3}};
        for (int[] due : dues) {
            due("doubt " + due[0], h.desk.doubt(due[0]), due[1]);
        }
    }

    private void takes() {
        Deskhand h = new Deskhand().right("ab").wrong("b");
        h.desk.learn();
        String[] rows = {"", "b", "a", "aa", "ab", "abb", "ababababab"};
        int[] dues = {0, 0, 1, 1, 2, 2, 10};
        for (int i = 0; i < rows.length; i++) {
            h.push(rows[i]);
            due("takes " + rows[i], h.desk.takes(), dues[i]);
            due("the hand stays", h.hand(), rows[i]);
            h.desk.empty();
        }
    }

    private void least() {
        due("of none", new UsageDesk().least(), 1);
        due("of one", new Deskhand().right("aaa", "b").wrong("c").desk.least(), 1);
        due("of two", new Deskhand().right("ab").wrong("b").desk.least(), 2);
        due("of three", new Deskhand().right("aa").wrong("aaa").desk.least(), 3);
        due("of four", new Deskhand().right("aaa").wrong("aaaa").desk.least(), 4);
        due("of more", new Deskhand().right("a".repeat(11)).wrong("a".repeat(12)).desk.least(), 4);
        due("left out ones don't bind", new Deskhand().right("aa").wrong("aa").desk.least(), 1);
        Deskhand h = new Deskhand().right("a".repeat(12), "b", "c", "d");
        due("of 16 nodes", h.desk.least(), 1);
        due("which are there", h.desk.count(6), 16);
        h.right("e");
        due("of 17 nodes", h.desk.least(), NONE);
        h.desk.drop(0);
        due("of 5 nodes again", h.desk.least(), 1);
        h.desk.learn();
        due("least is told of the rows, not of the law", h.wrong("aa").right("a").desk.least(), 2);
        // LEARN melts ba with the first node at once, and must then keep baa
        Deskhand greedy = new Deskhand().right("baa").wrong("aa");
        due("learnt", greedy.desk.learn(), 3);
        due("fewer than are learnt", greedy.desk.least(), 2);
    }

    private void feed() {
        UsageDesk d = new UsageDesk();
        for (int i = 1; i <= 10; i++) {
            due("feed", d.feed(-1, Integer.MIN_VALUE, 0, 5, 9), 20 * i);
        }
        due("feed too much", d.feed(0, 0, 0, 0, 0), NONE);
        due("the tape stays", d.count(5), 200);
        Deskhand h = new Deskhand();
        h.feed("abcdefghabcdefghabcdi");
        due("the highest byte first", h.desk.routine(21), -22);
        due("bytes above 127 are no letters", h.desk.feed(0xE1000000, 0, 0, 0, 0), 20);
        due("so", h.desk.routine(1), -2);
    }

    private void routinePlaces() {
        String ten = "((((((((((";
        String[] texts = {"i", "A", "`", "a*", "(a", "a)", "*", "|", "a|b", "()**", "(a)* *", "(|*)", "(", "a b* c",
            ten + "(", ten + ")(a)(b", "  i", "(a|b))", ten + ")((", "a\t", "(a)\0", ten + "))))))))))" + "*)", "(a ) *i"};
        int[] places = {0, 0, 0, 1, 2, 1, 0, 0, 1, 3, 5, 2, 1, 3,
            10, 16, 2, 5, 12, 1, 3, 21, 6};
        for (int i = 0; i < texts.length; i++) {
            due("place in " + texts[i], new Deskhand().routine(texts[i]), -2 - places[i]);
        }
        String[] good = {"", " ", "a", "()", "()*", "(|)", "(||a)*", " a ( b | c ) * d ", ten + "a))))))))))*", "((a)*b|())(h)"};
        for (String text : good) {
            due("routine " + text, new Deskhand().routine(text), 0);
        }
        String longest = "(abcdefgh)".repeat(20);
        due("a routine of 200 bytes", new Deskhand().routine(longest), 0);
        due("one without its end", new Deskhand().routine(longest.substring(0, 199)), -201);
    }

    private void routine() {
        Deskhand h = new Deskhand();
        h.feed("abcd");
        due("the first bytes", h.desk.routine(1), 0);
        due("the tape is empty", h.desk.count(5), 0);
        due("hold", h.desk.hold(), 1);
        due("its break", h.latestBreak(), "a");
        due("a text that is none", h.routine("b)"), -3);
        due("the tape is empty, too", h.desk.count(5), 0);
        due("the routine stays", h.desk.hold(), 1);
        due("so does its break", h.latestBreak(), "a");
        h.feed("b");
        for (int n : new int[] {-1, 21, 200, Integer.MIN_VALUE, Integer.MAX_VALUE}) {
            checks.throwing("routine " + n, ARGUMENT, () -> h.desk.routine(n));
        }
        due("the tape stays", h.desk.count(5), 20);
        due("no bytes", h.desk.routine(0), 0);
        due("a routine of nothing is clean", h.desk.hold(), 0);
    }

    private void hold() {
        Deskhand h = new Deskhand().right("ab").wrong("b");
        h.desk.learn();
        String[] texts = {"", "(ab)*", "(ab)*(a|)", "a b a b", "(a(ba)*b|)*", "(ab|b)*", "a(a|b)", "(ab)*(a)*", "(()*)*c", "b(a|b)", "(a|ab)*"};
        String[] breaks = {"", "", "", "", "", "b", "aa", "aa", "c", "b", "aa"};
        for (int i = 0; i < texts.length; i++) {
            due("break of " + texts[i], h.breakOf(texts[i]), breaks[i]);
        }
        Deskhand none = new Deskhand();
        due("only a law with steps takes anything", none.breakOf("(|h)g"), "g");
        due("a bracket may be left empty", none.breakOf("(a|())(|b)*"), "a");
    }

    private void holdShortestAndFirst() {
        Deskhand h = new Deskhand().right("ab", "ac").wrong("b", "c", "aa", "aba", "abb", "abc", "aca", "acb", "acc");
        h.desk.learn();
        due("first by letters, whatever stands first", h.breakOf("(aca|aba)"), "aba");
        due("so by the last letter", h.breakOf("(abc|aba|abb)"), "aba");
        due("the shortest, though later by letters", h.breakOf("(aba|c)"), "c");
        due("two places behind one beginning", h.breakOf("(acb|ab(|c)|aca)"), "abc");
        Deskhand t = threes();
        t.desk.learn();
        due("a break longer than a row", t.breakOf("aaaaaaaaaaaa(aaaaaaaaaaaa)*aab"), "a".repeat(14) + "b");
        due("none where three divides", t.breakOf("((aaa)*(aaa|aaaaaa)b)*"), "");
        due("the loop once round", t.breakOf("(aaaa)*b"), "aaaab");
        due("the loop that leads astray", t.breakOf("aa(aaa)*a(aaaaaa)*(b|aaaa(aaa)*b)"), "a".repeat(7) + "b");
        due("a routine of 200 bytes", t.breakOf("aaab".repeat(49) + "aaba"), "aaab".repeat(49) + "aab");
    }

    private void broken() {
        Deskhand h = new Deskhand();
        due("break", h.breakOf("(h|g)a"), "g");
        for (int k : new int[] {-1, 1, 6031, Integer.MIN_VALUE, Integer.MAX_VALUE}) {
            due("broken " + k, h.desk.broken(k), NONE);
        }
        h.right("g", "h", "a");
        h.desk.learn();
        h.routine("b");
        due("that of the latest hold", h.latestBreak(), "g");
        due("and then of the next one", h.breakOf("gg(h|a)b"), "ggab");
        due("a clean one has none", h.breakOf("gha"), "");
    }

    private void mend() {
        Deskhand two = new Deskhand().right("ab").wrong("b");
        two.desk.learn();
        String[] rows = {"", "ab", "b", "aab", "abb", "ba", "bbb", "abcab", "aaaa"};
        String[] dues = {" 0", "ab 0", " 1", "ab 1", "ab 1", "a 1", " 3", "abab 1", "a 3"};
        for (int i = 0; i < rows.length; i++) {
            due("mend " + rows[i], two.mended(rows[i]), dues[i]);
        }
        Deskhand three = ring();
        due("putting where that is fewest", three.mended("bcabc"), "abcabc 1");
        due("taking one out where two would be put", three.mended("cabca"), "abca 1");
        due("keeping, then taking out", three.mended("aa"), "a 1");
        due("taking out ahead of putting", three.mended("ac"), "a 1");
        due("nothing is put behind the last", three.mended("ab"), "ab 0");
        due("a put call goes by the law", three.mended("acabcbca"), "abcabcabca 2");
        Deskhand chain = new Deskhand().right("abcddd").wrong("d", "ad", "abd", "aa", "b", "c", "abb", "abcc", "ac");
        chain.desk.learn();
        due("a law of a chain", chain.law(), "0a1:1 1b2:1 2c3:1 3d3:3");
        due("putting three one behind another", chain.mended("dddd"), "abcdddd 3");
        due("taking out three rather than putting three", chain.mended("ddd"), " 3");
        due("putting two between", chain.mended("adddd"), "abcdddd 2");
        Deskhand put = new Deskhand().right("adee", "bdee", "cdee").wrong("d", "e", "aa", "ade" + "d");
        put.desk.learn();
        due("the first letter that is put", put.mended("dee").charAt(0) == 'a' ? 1 : 0, 1);
    }

    /** A law of three states that takes abc again and again. */
    private static Deskhand ring() {
        Deskhand h = new Deskhand().right("abca").wrong("b", "c", "aa", "ac", "abb");
        h.desk.learn();
        return h;
    }

    private void mendTooLong() {
        Deskhand h = ring();
        due("law", h.law(), "0a1:2 1b2:1 2c0:1");
        due("to 12 calls", h.mended("bcabcabcabc"), "abcabcabcabc 1");
        due("to 13 calls, which stays", h.mended("bcabcabcabca"), "bcabcabcabca -1");
        due("a hand of twelve that needs nothing", h.mended("abcabcabcabc"), "abcabcabcabc 0");
        due("twelve taken out", h.mended("hhhhhhhhhhhh"), " 12");
    }

    private void habit() {
        Deskhand h = new Deskhand().right("ab", "aba", "bab", "cc", "").wrong("ab", "a").right("acb");
        int[][] dues = {{0, 1, 4, 3}, {1, 0, 4, 1}, {0, 0, 4, 0}, {2, 2, 2, 0}, {2, 1, 2, 1}, {7, 0, 0, 0}, {0, 2, 4, 1}};
        for (int[] due : dues) {
            due("habit have " + due[0] + due[1], h.desk.habit(due[0], due[1], 0), due[2]);
            due("habit hold " + due[0] + due[1], h.desk.habit(due[0], due[1], 1), due[3]);
        }
        h.desk.drop(0);
        due("of rows that are there", h.desk.habit(0, 1, 0), 3);
        due("and hold", h.desk.habit(0, 1, 1), 2);
        for (int bad : new int[] {-1, 8, Integer.MIN_VALUE, Integer.MAX_VALUE}) {
            checks.throwing("habit x " + bad, ARGUMENT, () -> h.desk.habit(bad, 0, 0));
            checks.throwing("habit y " + bad, ARGUMENT, () -> h.desk.habit(0, bad, 0));
        }
        for (int what : new int[] {-1, 2, Integer.MIN_VALUE, Integer.MAX_VALUE}) {
            checks.throwing("habit what " + what, ARGUMENT, () -> h.desk.habit(0, 1, what));
        }
    }

    private void rank() {
        Deskhand h = new Deskhand().right("ab", "ab", "a", "cd", "cd", "cd", "cd", "c", "c", "ef");
        // ef 1/1; cd 4/6 ahead of ab 2/3; then those of share 0: c with 6, d with 4, a with 3, ...
        due("the shares", h.ranks(0, 3), "ef cd ab");
        due("then by rows, x and y", h.ranks(3, 11), "ca cb ce cf cg ch da db");
        due("the last ones", h.ranks(38, 42), "fd fe fg fh");
        due("one more", h.desk.rank(42, 0), NONE);
        for (int k : new int[] {-1, 56, 64, Integer.MIN_VALUE, Integer.MAX_VALUE}) {
            due("rank " + k, h.desk.rank(k, 1), NONE);
        }
        for (int what : new int[] {-1, 2, Integer.MIN_VALUE, Integer.MAX_VALUE}) {
            checks.throwing("rank what " + what, ARGUMENT, () -> h.desk.rank(0, what));
            checks.throwing("rank what without one " + what, ARGUMENT, () -> h.desk.rank(99, what));
        }
        h.wrong("ab").desk.drop(9);
        due("of rows that are there, whole", h.ranks(0, 2), "cd ab");
        due("all that can be", new Deskhand().right("abcdefgh").ranks(54, 56), "hf hg");
    }

    private void count() {
        Deskhand h = new Deskhand().right("abc", "abd").wrong("abc", "b");
        h.desk.drop(3);
        h.desk.learn();
        h.feed("a");
        h.push("gh");
        int[] dues = {3, 4, 1, 3, 2, 20, 4};
        for (int what = 0; what < dues.length; what++) {
            due("count " + what, h.desk.count(what), dues[what]);
        }
        for (int what : new int[] {-1, 7, Integer.MIN_VALUE, Integer.MAX_VALUE}) {
            due("count " + what, h.desk.count(what), NONE);
        }
        h.desk.drop(2);
        due("nodes as the rows are", h.desk.count(6), 5);
        due("the law's steps stay", h.desk.count(3), 3);
    }
}
