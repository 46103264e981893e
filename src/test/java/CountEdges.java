/** Promise 21: count. */
final class CountEdges extends Edges {
    CountEdges(Checks checks, Document document) {
        super(checks, document);
    }

    @Override
    void run() {
        rowsThatAreThere();
        rowsToldInAll();
        statesOfTheLaw();
        stepsOfTheLaw();
        callsInTheHand();
        bytesOfTheTape();
        nodesOfTheTree();
        noneForOthers();
        atMost512Calls();
    }

    private void rowsThatAreThere() {
        sentence(21, "0 ROWS that are there");
        Deskhand h = new Deskhand();
        due("none", h.desk.count(0), 0);
        for (int row = 0; row < 60; row++) {
            h.row("a", row % 2 == 0);
        }
        due("sixty", h.desk.count(0), 60);
        h.desk.row(true);
        due("sixty, and one refused", h.desk.count(0), 60);
        for (int row = 0; row < 60; row++) {
            h.desk.drop(row);
        }
        due("all dropped", h.desk.count(0), 0);
    }

    private void rowsToldInAll() {
        sentence(21, "1 told in all");
        Deskhand h = new Deskhand();
        due("none", h.desk.count(1), 0);
        h.desk.row(false);
        due("a refused one", h.desk.count(1), 0);
        h.right("", "a").wrong("b");
        h.desk.drop(0);
        h.desk.drop(2);
        due("three, though two were dropped", h.desk.count(1), 3);
    }

    private void statesOfTheLaw() {
        sentence(21, "2 STATES of the LAW");
        Deskhand h = new Deskhand().right("a").wrong("aa");
        due("ahead of learning", h.desk.count(2), 1);
        h.desk.learn();
        due("two", h.desk.count(2), 2);
        h.desk.drop(1);
        due("two, though a row was dropped", h.desk.count(2), 2);
        h.desk.learn();
        due("one again", h.desk.count(2), 1);
        Deskhand thirty = new Deskhand().chains(6).barChains(6);
        thirty.desk.learn();
        due("thirty", thirty.desk.count(2), 30);
    }

    private void stepsOfTheLaw() {
        sentence(21, "3 STEPS of it");
        Deskhand h = new Deskhand().right("aabcdefgh", "hgfedcba");
        due("ahead of learning", h.desk.count(3), 0);
        h.desk.learn();
        due("eight from one state", h.desk.count(3), 8);
        h.desk.drop(0);
        h.desk.drop(1);
        due("eight, though all rows were dropped", h.desk.count(3), 8);
        h.desk.learn();
        due("none again", h.desk.count(3), 0);
        Deskhand thirty = new Deskhand().chains(6).barChains(6);
        thirty.desk.learn();
        due("of thirty states", thirty.desk.count(3), 31);
    }

    private void callsInTheHand() {
        sentence(21, "4 CALLS in the HAND");
        Deskhand h = new Deskhand();
        due("none", h.desk.count(4), 0);
        due("twelve", h.push("hhhhhhhhhhhh").desk.count(4), 12);
        due("twelve, and one refused", h.push("h").desk.count(4), 12);
        h.desk.mend();
        due("none behind mending", h.desk.count(4), 0);
        h.push("a").desk.row(true);
        due("none behind a row", h.desk.count(4), 0);
    }

    private void bytesOfTheTape() {
        sentence(21, "5 bytes of the TAPE");
        Deskhand h = new Deskhand();
        due("none", h.desk.count(5), 0);
        h.feed("a");
        due("twenty", h.desk.count(5), 20);
        h.feed("a".repeat(180));
        due("two hundred", h.desk.count(5), 200);
        h.feed("a");
        due("two hundred, and twenty refused", h.desk.count(5), 200);
        h.desk.routine(0);
        due("none behind a routine", h.desk.count(5), 0);
    }

    private void nodesOfTheTree() {
        sentence(21, "6 NODES of the TREE of the ROWS that are there");
        Deskhand h = new Deskhand();
        due("the empty one", h.desk.count(6), 1);
        h.right("abcdefghabcd", "hgfedcbahgfe");
        due("of two rows", h.desk.count(6), 25);
        h.wrong("hgf");
        due("of a cut one", h.desk.count(6), 15);
        h.desk.learn();
        due("behind learning", h.desk.count(6), 15);
        h.desk.drop(0);
        due("behind a drop", h.desk.count(6), 3);
        h.desk.drop(2);
        due("of a whole one again", h.desk.count(6), 13);
        Deskhand wide = new Deskhand();
        for (int row = 0; row < 39; row++) {
            wide.right("" + (char) ('a' + row % 8) + (char) ('a' + row / 8) + "cccccccccc");
        }
        due("of 39 rows of twelve calls", wide.desk.count(6), 1 + 8 + 39 * 11);
    }

    private void noneForOthers() {
        sentence(21, "NONE for others");
        Deskhand h = new Deskhand().right("ab").wrong("b");
        h.desk.learn();
        for (int what : new int[] {LOWEST, -2, -1, 7, 8, 255, HIGHEST}) {
            due("count(" + what + ")", h.desk.count(what), NONE);
        }
    }

    private void atMost512Calls() {
        sentence(Document.TERMS, "An object is used for at most 512 calls after it has been made; what later calls answer is free.");
        UsageDesk d = new UsageDesk();
        for (int call = 1; call <= 510; call++) {
            d.push(call % 8);
        }
        due("the 511th call", d.count(4), 12);
        due("the 512th call", d.hand(11), 4);
    }
}
