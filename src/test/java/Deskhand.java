/** Calls a desk with texts, so that tests can be read: letters a to h are the calls 0 to 7. */
final class Deskhand {
    final UsageDesk desk = new UsageDesk();

    Deskhand push(String calls) {
        for (char c : calls.toCharArray()) {
            desk.push(c - 'a');
        }
        return this;
    }

    int row(String calls, boolean right) {
        push(calls);
        return desk.row(right);
    }

    Deskhand right(String... rows) {
        for (String calls : rows) {
            row(calls, true);
        }
        return this;
    }

    Deskhand wrong(String... rows) {
        for (String calls : rows) {
            row(calls, false);
        }
        return this;
    }

    /** Three RIGHT ROWS: chains by a, by b and d, and by e and f, with 24 + last beginnings that matter. */
    Deskhand chains(int last) {
        return right("e" + "f".repeat(last), "a".repeat(11) + "c", "b" + "d".repeat(10) + "g");
    }

    /** The WRONG ROWS for which no two of those beginnings can be one STATE. */
    Deskhand barChains(int last) {
        String a = "a".repeat(11);
        String b = "b" + "d".repeat(10);
        String e = "e" + "f".repeat(last);
        wrong(a + "a", a + "d", a + "f", b + "d", b + "c", b + "f", e + "f", e + "c", e + "g");
        for (int i = 0; i <= 10; i++) {
            wrong("b" + "d".repeat(i) + "a");
        }
        for (int i = 0; i <= last; i++) {
            wrong("e" + "f".repeat(i) + "a");
            wrong("e" + "f".repeat(i) + "d");
        }
        return this;
    }

    /** One answer of told for each ROW, as "1 0 3". */
    String toldOfAll(int what) {
        StringBuilder all = new StringBuilder();
        int told = desk.count(1);
        for (int row = 0; row < told; row++) {
            all.append(row == 0 ? "" : " ").append(desk.told(row, what));
        }
        return all.toString();
    }

    void feed(String text) {
        for (int i = 0; i < text.length(); i += 20) {
            desk.feed(number(text, i), number(text, i + 4), number(text, i + 8),
                    number(text, i + 12), number(text, i + 16));
        }
    }

    static int number(String text, int place) {
        int value = 0;
        for (int i = place; i < place + 4; i++) {
            value = value << 8 | (i < text.length() ? text.charAt(i) : 0);
        }
        return value;
    }

    int routine(String text) {
        feed(text);
        return desk.routine(text.length());
    }

    /** The BREAK of a new ROUTINE; "" of a CLEAN one. */
    String breakOf(String text) {
        if (routine(text) != 0) {
            return "no routine";
        }
        int size = desk.hold();
        String found = latestBreak();
        return size == found.length() ? found : "of another length";
    }

    String latestBreak() {
        StringBuilder all = new StringBuilder();
        int call = desk.broken(0);
        while (call != UsageDesk.NONE) {
            all.append((char) ('a' + call));
            call = desk.broken(all.length());
        }
        return all.toString();
    }

    String hand() {
        StringBuilder all = new StringBuilder();
        int call = desk.hand(0);
        while (call != UsageDesk.NONE) {
            all.append((char) ('a' + call));
            call = desk.hand(all.length());
        }
        return all.toString();
    }

    /** What comes of a row and its COST, as "abc 2". */
    String mended(String calls) {
        desk.empty();
        push(calls);
        int cost = desk.mend();
        return hand() + " " + cost;
    }

    /** All STEPS with how often they were SEEN, as "0a1:2 1b0:1". */
    String law() {
        StringBuilder all = new StringBuilder();
        int states = desk.count(2);
        for (int state = 0; state < states; state++) {
            for (int call = 0; call < 8; call++) {
                int to = desk.step(state, call);
                if (to != UsageDesk.NONE) {
                    all.append(all.length() == 0 ? "" : " ").append(state).append((char) ('a' + call))
                            .append(to).append(':').append(desk.seen(state, call));
                }
            }
        }
        return all.toString();
    }

    String ranks(int from, int to) {
        StringBuilder all = new StringBuilder();
        for (int k = from; k < to; k++) {
            all.append(k == from ? "" : " ");
            all.append((char) ('a' + desk.rank(k, 0))).append((char) ('a' + desk.rank(k, 1)));
        }
        return all.toString();
    }
}
