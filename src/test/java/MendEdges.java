/** Promise 18: mend. */
final class MendEdges extends Edges {
    MendEdges(Checks checks, Document document) {
        super(checks, document);
    }

    @Override
    void run() {
        nothingIsPutBehindTheLast();
        keptIfThereIsAStep();
        theFewest();
        keepingAheadOfTakingOut();
        takingOutAheadOfPutting();
        puttingTheFirstLetter();
        mendGivesTheHand();
        mendToMoreThanTwelve();
    }

    /** A law of three states that takes abc again and again. */
    private static Deskhand ring() {
        Deskhand h = new Deskhand().right("abca").wrong("b", "c", "aa", "ac", "abb");
        h.desk.learn();
        return h;
    }

    private void nothingIsPutBehindTheLast() {
        sentence(Document.TERMS, "behind its last CALL nothing is put");
        Deskhand h = ring();
        due("no calls", h.mended(""), " 0");
        due("the first call alone", h.mended("a"), "a 0");
        due("a round that is not ended", h.mended("ab"), "ab 0");
        due("a refused last call", h.mended("abcb"), "abc 1");
    }

    private void keptIfThereIsAStep() {
        sentence(Document.TERMS, "the next CALL is kept (if the LAW has a STEP)");
        due("no step at all", new Deskhand().mended("hhh"), " 3");
        Deskhand h = ring();
        due("no step by d", h.mended("abdc"), "abc 1");
        due("a step for each", h.mended("abcabcabcabc"), "abcabcabcabc 0");
    }

    private void theFewest() {
        sentence(Document.TERMS, "COST: how many are taken out or put. The fewest");
        Deskhand h = ring();
        due("one put rather than four taken out", h.mended("bcab"), "abcab 1");
        due("one taken out rather than two put", h.mended("cabc"), "abc 1");
        due("both", h.mended("bcdabcb"), "abcabc 3");
        Deskhand chain = new Deskhand().right("abcddd").wrong("d", "ad", "abd", "aa", "b", "c", "abb", "abcc", "ac");
        chain.desk.learn();
        due("three put one behind another", chain.mended("dddd"), "abcdddd 3");
        due("three put rather than nine taken out", chain.mended("ddddddddd"), "abcddddddddd 3");
    }

    private void keepingAheadOfTakingOut() {
        sentence(Document.TERMS, "at the first place where two are unlike keeping is ahead of taking out");
        Deskhand h = new Deskhand().right("ab", "ba").wrong("aa", "bb", "aba", "bab", "abb", "baa");
        h.desk.learn();
        due("the first one is kept, the second taken out", h.mended("aa"), "a 1");
        due("though the other way would keep as many", h.mended("acb"), "ab 1");
        Deskhand two = new Deskhand().right("a", "b").wrong("ab", "ba", "aa", "bb");
        two.desk.learn();
        due("a kept, b taken out", two.mended("ab"), "a 1");
        due("b kept, a taken out", two.mended("ba"), "b 1");
    }

    private void takingOutAheadOfPutting() {
        sentence(Document.TERMS, "that ahead of putting a");
        Deskhand h = ring();
        due("taken out at the end", h.mended("ac"), "a 1");
        due("taken out rather than put", h.mended("b"), " 1");
        due("taken out, and the next one, too", h.mended("cc"), " 2");
        Deskhand chain = new Deskhand().right("abcddd").wrong("d", "ad", "abd", "aa", "b", "c", "abb", "abcc", "ac");
        chain.desk.learn();
        due("three taken out rather than three put", chain.mended("ddd"), " 3");
        due("two taken out rather than two put", chain.mended("add"), "a 2");
    }

    private void puttingTheFirstLetter() {
        sentence(Document.TERMS, "that ahead of putting b, and so on");
        Deskhand all = new Deskhand().right("adee", "bdee", "cdee").wrong("d", "e", "aa", "aded");
        all.desk.learn();
        due("a of a, b and c", all.mended("dee"), "adee 1");
        Deskhand later = new Deskhand().right("hdee", "gdee").wrong("d", "e", "gg", "hh", "gded");
        later.desk.learn();
        due("g of g and h", later.mended("dee"), "gdee 1");
    }

    private void mendGivesTheHand() {
        sentence(18, "The HAND is MENDED (it has what comes of it then): the COST");
        UsageDesk none = new UsageDesk();
        due("mend of an empty hand", none.mend(), 0);
        due("it stays empty", none.count(4), 0);
        Deskhand h = new Deskhand();
        due("twelve taken out", h.mended("abcdefghabcd"), " 12");
        due("the hand is empty then", h.desk.count(4), 0);
        due("push goes on", h.push("h").desk.count(4), 1);
        Deskhand ring = ring();
        due("one put", ring.mended("bcab"), "abcab 1");
        due("the law takes it", ring.desk.takes(), 5);
        due("mend again", ring.desk.mend(), 0);
        due("the hand stays then", ring.hand(), "abcab");
        due("and makes a row", ring.desk.row(true), 6);
        due("of five calls", ring.desk.told(6, 2), 5);
    }

    private void mendToMoreThanTwelve() {
        sentence(18, "-1, and it stays: that would be more than 12 CALLS");
        Deskhand h = ring();
        due("eleven to twelve", h.mended("bcabcabcabc"), "abcabcabcabc 1");
        due("twelve to thirteen", h.mended("bcabcabcabca"), "bcabcabcabca -1");
        due("twelve to thirteen in the midst", h.mended("abcabcacabca"), "abcabcacabca -1");
        due("twelve to twelve, one put and one taken out", h.mended("bcabcabcabch"), "abcabcabcabc 2");
        due("twelve to twelve, four put and four taken out", h.mended("bchbchbchbch"), "abcabcabcabc 8");
        due("twelve to thirteen, three put and two taken out", h.mended("bchbchbcabca"), "bchbchbcabca -1");
        due("twelve to eleven", h.mended("abcabcabcabb"), "abcabcabcab 1");
        Deskhand chain = new Deskhand().right("abcddd").wrong("d", "ad", "abd", "aa", "b", "c", "abb", "abcc", "ac");
        chain.desk.learn();
        due("nine to twelve", chain.mended("ddddddddd"), "abcddddddddd 3");
        due("ten to thirteen", chain.mended("dddddddddd"), "dddddddddd -1");
        due("twelve to fifteen", chain.mended("dddddddddddd"), "dddddddddddd -1");
        due("the hand can be emptied", chain.desk.empty(), 12);
    }
}
