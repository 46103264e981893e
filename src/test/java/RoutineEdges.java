/** Promises 14 to 17: feed, routine, hold, broken. */
final class RoutineEdges extends Edges {
    private static final String TEN = "((((((((((";
    private static final String TEN_CLOSED = "))))))))))";

    RoutineEdges(Checks checks, Document document) {
        super(checks, document);
    }

    @Override
    void run() {
        emptyTexts();
        lettersAreEight();
        bracketsAndBars();
        starBehindABracket();
        blanksAreThirtyTwo();
        tenOpenAtOneTime();
        placeOfTheFirstByte();
        placeOfTheEleventhAndOfTheEnd();
        feedTheHighestFirst();
        feedMoreThanTwoHundred();
        routineOfTheFirstBytes();
        routineOfNone();
        routineOfTooManyBytes();
        waysOfBrackets();
        breakIsTheShortest();
        breakIsTheFirstByLetters();
        holdTellsTheSize();
        holdOfACleanOne();
        brokenTellsItsCalls();
        brokenOfTheLatest();
        brokenTellsNoneBeside();
    }

    private static int place(String text) {
        return -2 - new Deskhand().routine(text);
    }

    /** What stands for the PLACE of a text that is a ROUTINE. */
    private static final int GOOD = -2;

    private void emptyTexts() {
        sentence(Document.TERMS, "S to the end: S = { A }");
        due("no bytes", place(""), GOOD);
        due("a blank", place(" "), GOOD);
        due("200 blanks", place(" ".repeat(200)), GOOD);
        due("one letter", place("a"), GOOD);
        due("200 letters", place("h".repeat(200)), GOOD);
        due("a bar", place("|"), 0);
        due("a bar at the end", place("ab|"), 2);
        due("a bar behind a bracket", place("(a)|"), 3);
    }

    private void lettersAreEight() {
        sentence(Document.TERMS, "A = a letter a to h");
        for (int start = 0; start < 256; start += 64) {
            UsageDesk d = new UsageDesk();
            for (int sign = start; sign < start + 64; sign++) {
                d.feed(sign << 24, 0, 0, 0, 0);
                boolean good = sign == ' ' || sign >= 'a' && sign <= 'h';
                due("byte " + sign, d.routine(1), good ? 0 : sign == '(' ? -3 : -2);
            }
        }
    }

    private void bracketsAndBars() {
        sentence(Document.TERMS, "\"(\" S { \"|\" S } \")\"");
        String[] texts = {"()", "(|)", "(||||)", "(a|)", "(|a)", "()()", "(()|())", "(a)b(c)", ")", "())", "(a))", "(|", "(a|b", "((a)"};
        int[] places = {GOOD, GOOD, GOOD, GOOD, GOOD, GOOD, GOOD, GOOD, 0, 2, 3, 2, 4, 4};
        for (int i = 0; i < texts.length; i++) {
            due(texts[i], place(texts[i]), places[i]);
        }
        due("200 bytes of brackets", place("()".repeat(100)), GOOD);
        due("200 bytes of bars", place("(" + "|".repeat(198) + ")"), GOOD);
    }

    private void starBehindABracket() {
        sentence(Document.TERMS, "and perhaps \"*\" (any times, also none)");
        String[] texts = {"()*", "(a)*(b)*", "((a)*)*", "(a)*b", "*", "a*", "(*)", "(a|*)", "(a*)", "()**", "(a)*b*", "()* *"};
        int[] places = {GOOD, GOOD, GOOD, GOOD, 0, 1, 1, 3, 2, 3, 5, 4};
        for (int i = 0; i < texts.length; i++) {
            due(texts[i], place(texts[i]), places[i]);
        }
        Deskhand h = new Deskhand().right("b").wrong("a");
        h.desk.learn();
        due("also none", h.breakOf("(b)*c"), "c");
        due("once is a way, too", h.breakOf("(a)*b"), "a");
    }

    private void blanksAreThirtyTwo() {
        sentence(Document.TERMS, "between them blanks (32)");
        due("blanks", place("  a  (  b  |  c  )  *  d  "), GOOD);
        due("in empty ones", place("( | )"), GOOD);
        Deskhand h = alternating();
        due("blanks make no way", h.breakOf("  (  a  b  )  *  ( a | )  "), "");
        due("nor end one", h.breakOf(" a ( b | ) a "), "aa");
        due("a star behind blanks", h.breakOf("( a   )   *"), "aa");
        due("a star apart from a letter", place("a  *"), 3);
        due("a fault behind blanks", place("   i"), 3);
        for (int sign : new int[] {0, 9, 10, 13, 31, 33, 95, 160, 255}) {
            due("byte " + sign, place("a" + (char) sign + "b"), 1);
        }
    }

    private void tenOpenAtOneTime() {
        sentence(Document.TERMS, "At most 10 of ( are open at one time.");
        due("ten", place(TEN + TEN_CLOSED), GOOD);
        due("ten and their stars", place(TEN + "a" + ")*".repeat(10)), GOOD);
        due("ten again", place(TEN + TEN_CLOSED + TEN + TEN_CLOSED), GOOD);
        due("a tenth again", place(TEN + ")(" + ")(" + TEN_CLOSED), GOOD);
        due("eleven", place(TEN + "()" + TEN_CLOSED), 10);
        due("eleven behind a closed one", place(TEN + ")((" + TEN_CLOSED + ")"), 12);
        due("eleven behind a bar", place(TEN + "|(" + TEN_CLOSED + ")"), 11);
    }

    private void placeOfTheFirstByte() {
        sentence(Document.TERMS, "A text that is none has a PLACE: of the first byte that can't stand there");
        due("the first one", place("i"), 0);
        due("the first one of two", place("ai)"), 1);
        due("ahead of the end that lacks", place("((i"), 2);
        due("the last one of 200", place("a".repeat(199) + "i"), 199);
        due("a bracket that closes too much", place("(a)b)c)"), 4);
    }

    private void placeOfTheEleventhAndOfTheEnd() {
        sentence(Document.TERMS, "(an 11th ( that would be open can't; the end: its length)");
        due("the 11th", place(TEN + "("), 10);
        due("the 11th, with letters and blanks", place("a ((((( b (((((  c  ( "), 20);
        due("the end behind one", place("("), 1);
        due("the end behind ten", place(TEN), 10);
        due("the end behind blanks", place("(a   "), 5);
        due("the end behind a star", place("((a)*"), 5);
        due("the end of 200", place("(" + "a".repeat(199)), 200);
        Deskhand part = new Deskhand();
        part.feed("(a)");
        due("the end is where the text ends, not the tape", part.desk.routine(2), -4);
    }

    private void feedTheHighestFirst() {
        sentence(14, "Twenty bytes come on the TAPE, of each number the highest first: how many there are");
        Deskhand h = new Deskhand();
        for (int i = 0; i < 20; i++) {
            h.feed("a".repeat(i) + "z" + "a".repeat(19 - i));
            due("byte " + i, h.desk.routine(20), -2 - i);
        }
        // the sign of a number is a bit like any other
        due("feed of the lowest", h.desk.feed(0x61616161, 0x61616161, 0x61616161, 0x61616161, LOWEST), 20);
        due("its highest byte", h.desk.routine(20), -18);
        due("feed of -1", h.desk.feed(-1, -1, -1, -1, -1), 20);
        due("its first byte", h.desk.routine(20), -2);
        for (int size = 20; size <= 200; size += 20) {
            due("feed", h.desk.feed(0, HIGHEST, LOWEST, -1, 1), size);
            due("count(5)", h.desk.count(5), size);
        }
    }

    private void feedMoreThanTwoHundred() {
        sentence(14, "NONE, doing nothing, if there would be more than 200");
        Deskhand h = new Deskhand();
        h.feed("a".repeat(180));
        due("to 200", h.desk.feed(0x61616161, 0x61616161, 0x61616161, 0x61616161, 0x61616169), 200);
        due("to 220", h.desk.feed(0x69696969, 0x69696969, 0x69696969, 0x69696969, 0x69696969), NONE);
        due("to 220 again", h.desk.feed(0, 0, 0, 0, 0), NONE);
        due("count(5)", h.desk.count(5), 200);
        due("what is on the tape stays", h.desk.routine(200), -201);
        due("to 20", h.desk.feed(0, 0, 0, 0, 0), 20);
    }

    private void routineOfTheFirstBytes() {
        sentence(15, "The first n bytes of the TAPE (empty then) are the ROUTINE: 0");
        Deskhand h = new Deskhand();
        due("routine(0) of an empty tape", h.desk.routine(0), 0);
        h.feed("gi");
        due("routine(1)", h.desk.routine(1), 0);
        due("the tape is empty", h.desk.count(5), 0);
        due("its break", h.desk.hold(), 1);
        due("is g", h.latestBreak(), "g");
        h.feed("h");
        due("routine(0)", h.desk.routine(0), 0);
        due("the tape is empty, too", h.desk.count(5), 0);
        due("an empty routine is clean", h.desk.hold(), 0);
        due("routine(200)", h.routine("h".repeat(200)), 0);
        due("the full tape is empty", h.desk.count(5), 0);
        due("break of the full one", h.desk.hold(), 1);
        due("is h", h.latestBreak(), "h");
        Deskhand taking = new Deskhand().right("g");
        taking.desk.learn();
        taking.feed("gh");
        due("routine(1) of a g that is taken", taking.desk.routine(1), 0);
        due("no byte behind it belongs to it", taking.desk.hold(), 0);
        due("the tape begins anew", h.routine("e"), 0);
        due("with what is fed", h.desk.hold() == 1 ? h.latestBreak() : "", "e");
    }

    private void routineOfNone() {
        sentence(15, "or -2 less its PLACE (the ROUTINE stays)");
        Deskhand h = new Deskhand();
        h.routine("c");
        due("at the first byte", h.routine("i"), -2);
        due("at the second byte", h.routine("ai"), -3);
        due("at the last byte of 200", h.routine("a".repeat(199) + ")"), -201);
        due("at the end of 200", h.routine("(" + "a".repeat(199)), -202);
        due("the tape is empty", h.desk.count(5), 0);
        due("hold", h.desk.hold(), 1);
        due("the routine stays", h.latestBreak(), "c");
        Deskhand none = new Deskhand();
        none.routine("ab)");
        due("no routine stays none", none.desk.hold(), 0);
    }

    private void routineOfTooManyBytes() {
        sentence(15, "IllegalArgumentException: n is not 0 to the TAPE's bytes");
        Deskhand h = new Deskhand();
        throwing("routine of an empty tape", ARGUMENT, h.desk::routine, LOWEST, -1, 1, 20, 200, HIGHEST);
        h.routine("c");
        throwing("routine of a tape that was used", ARGUMENT, h.desk::routine, -1, 1, 20);
        h.feed("d");
        throwing("routine of 20 bytes", ARGUMENT, h.desk::routine, LOWEST, -1, 21, 200, HIGHEST);
        due("the tape stays", h.desk.count(5), 20);
        due("the routine stays", h.desk.hold() == 1 ? h.latestBreak() : "", "c");
        due("what is on the tape stays", h.desk.routine(1), 0);
        due("and can be used", h.desk.hold() == 1 ? h.latestBreak() : "", "d");
        h.feed("a".repeat(200));
        throwing("routine of 200 bytes", ARGUMENT, h.desk::routine, -1, 201, 220);
        due("the full tape stays", h.desk.count(5), 200);
        due("all of it", h.desk.routine(200), 0);
    }

    private void waysOfBrackets() {
        sentence(Document.TERMS, "of a bracket one of its S, with * as many as one likes, one behind another");
        Deskhand h = alternating();
        String[] texts = {"(a|)", "(ab|)(ab|)", "(|a)b", "(a|b)*", "(ab)*(ab)*a", "(ab)*ab(b)*", "(a(b(a(b)))|)", "(()*)*a", "((ab)*|a)b", "()b"};
        String[] breaks = {"", "", "b", "b", "", "abb", "", "", "b", "b"};
        for (int i = 0; i < texts.length; i++) {
            due(texts[i], h.breakOf(texts[i]), breaks[i]);
        }
        due("without a star not none", h.breakOf("(a)b"), "");
        due("nor the first of two", h.breakOf("((ab)|(ab))a"), "");
        due("without a star not twice", h.breakOf("(ab|a)"), "");
        due("with a star twice", h.breakOf("(ab|a)*"), "aa");
        due("ten deep", h.breakOf(TEN + "a" + ")*".repeat(10)), "aa");
    }

    /** A law of two states that takes ab again and again. */
    private static Deskhand alternating() {
        Deskhand h = new Deskhand().right("ab").wrong("b");
        h.desk.learn();
        return h;
    }

    private void breakIsTheShortest() {
        sentence(Document.TERMS, "of all beginnings of WAYS that the LAW does not TAKE the shortest one");
        Deskhand h = alternating();
        due("a beginning, not the whole way", h.breakOf("abaabab"), "abaa");
        due("the later one by letters", h.breakOf("(abaa|b)"), "b");
        due("the one told last", h.breakOf("(ababaa|abaa|aa)"), "aa");
        due("behind none of a star", h.breakOf("(ab)*b"), "b");
        due("of one call", h.breakOf("h"), "h");
        due("of 200 calls", h.breakOf("ab".repeat(99) + "ac"), "ab".repeat(99) + "ac");
    }

    private void breakIsTheFirstByLetters() {
        sentence(Document.TERMS, "of these the first by letters");
        Deskhand h = alternating();
        due("of one call", h.breakOf("(h|g|b|c)"), "b");
        due("by the last letter", h.breakOf("(abh|abc|abd)"), "abc");
        due("the same beginning told twice", h.breakOf("(abh|ab(d|c))"), "abc");
        Deskhand fork = new Deskhand().right("ac", "bc").wrong("c", "ab", "aa", "ba", "bb", "aca", "bca", "acb", "bcb", "acc", "bcc");
        fork.desk.learn();
        due("by the first letter", fork.breakOf("(bca|acc)"), "acc");
        due("whatever state it leads to", fork.breakOf("(b(a|b)|a(h|g))"), "ag");
    }

    private void holdTellsTheSize() {
        sentence(16, "The ROUTINE is HELD against the LAW: how many CALLS its BREAK has");
        Deskhand h = counting(5);
        due("one call", h.routine("h") + h.desk.hold(), 1);
        due("200 calls", h.routine("a".repeat(199) + "b") + h.desk.hold(), 200);
        due("the last of them", h.desk.broken(199), 1);
        due("behind the last", h.desk.broken(200), NONE);
        // 196 leaves 1, so the loop must be gone through four times
        due("a routine of 200 bytes", h.routine("(" + "a".repeat(196) + ")*b"), 0);
        due("785 calls", h.desk.hold(), 785);
        due("hold again", h.desk.hold(), 785);
        due("the first one", h.desk.broken(0), 0);
        due("the last but one", h.desk.broken(783), 0);
        due("the last one", h.desk.broken(784), 1);
        due("behind the last one", h.desk.broken(785), NONE);
        Deskhand eleven = counting(11);
        due("a loop of 188", eleven.routine("(" + "a".repeat(188) + ")*b"), 0);
        due("1881 calls", eleven.desk.hold(), 1881);
        due("the last of them all", eleven.desk.broken(1880), 1);
        due("behind them all", eleven.desk.broken(1881), NONE);
    }

    /** A law that counts a round and round, and takes b but behind one less than a round. */
    private Deskhand counting(int round) {
        Deskhand h = new Deskhand();
        for (int i = 0; i < round - 1; i++) {
            h.right("a".repeat(i) + "b");
        }
        h.right("a".repeat(round) + "b").wrong("a".repeat(round - 1) + "b");
        due("learn of a round of " + round, h.desk.learn(), round);
        return h;
    }

    private void holdOfACleanOne() {
        sentence(16, "0: it is CLEAN (also without a ROUTINE)");
        due("without a routine", new UsageDesk().hold(), 0);
        Deskhand h = alternating();
        due("without a routine, by a law", h.desk.hold(), 0);
        for (String text : new String[] {"", " ", "()", "()*", "(()*|)*", "a", "(ab)*", "(ab)*a", "ab".repeat(100)}) {
            due("routine " + text, h.routine(text), 0);
            due("hold of " + text, h.desk.hold(), 0);
            due("broken of " + text, h.desk.broken(0), NONE);
        }
        due("a loop without an end", counting(5).breakOf("((aaaaa)*b)*"), "");
    }

    private void brokenTellsItsCalls() {
        sentence(17, "CALL k of the BREAK");
        Deskhand h = alternating();
        h.routine("abah");
        due("hold", h.desk.hold(), 4);
        due("the first one", h.desk.broken(0), 0);
        due("the second one", h.desk.broken(1), 1);
        due("the last one", h.desk.broken(3), 7);
    }

    private void brokenOfTheLatest() {
        sentence(17, "of the latest hold()");
        Deskhand h = new Deskhand();
        h.routine("h");
        due("ahead of a hold", h.desk.broken(0), NONE);
        due("hold", h.desk.hold(), 1);
        h.routine("g");
        h.right("h", "g").desk.learn();
        due("whatever becomes of routine and law", h.latestBreak(), "h");
        due("a clean hold", h.desk.hold(), 0);
        due("has none", h.latestBreak(), "");
        due("a longer one", h.breakOf("hghga"), "hghga");
        due("and a shorter one", h.breakOf("gb"), "gb");
    }

    private void brokenTellsNoneBeside() {
        sentence(17, "NONE");
        Deskhand h = new Deskhand();
        int[] beside = {LOWEST, -1, 2, 3, 199, 200, 6030, 6031, HIGHEST};
        for (int k : beside) {
            due("broken(" + k + ") without a hold", h.desk.broken(k), NONE);
        }
        h.right("a").desk.learn();
        due("break", h.breakOf("ab"), "ab");
        for (int k : beside) {
            due("broken(" + k + ") of two calls", h.desk.broken(k), NONE);
        }
    }
}
