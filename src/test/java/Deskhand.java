/** Calls a desk with texts, so that tests can be read: letters a to h are the calls 0 to 7. */
final class Deskhand {
    final UsageDesk desk = new UsageDesk();

    Deskhand push(String calls) {
        for (char c : calls.toCharArray()) {
            desk.push(c - 'a');
        }
        return this;
    }

    int row(String calls, boolean right) {
        push(calls);
        return desk.row(right);
    }

    Deskhand right(String... rows) {
        for (String calls : rows) {
            row(calls, true);
        }
        return this;
    }

    Deskhand wrong(String... rows) {
        for (String calls : rows) {
            row(calls, false);
        }
        return this;
    }

    void feed(String text) {
        for (int i = 0; i < text.length(); i += 20) {
            desk.feed(number(text, i), number(text, i + 4), number(text, i + 8),
                    number(text, i + 12), number(text, i + 16));
        }
    }

    static int number(String text, int place) {
        int value = 0;
        for (int i = place; i < place + 4; i++) {
            value = value << 8 | (i < text.length() ? text.charAt(i) : 0);
        }
        return value;
    }

    int routine(String text) {
        feed(text);
        return desk.routine(text.length());
    }

    /** The BREAK of a new ROUTINE; "" of a CLEAN one. */
    String breakOf(String text) {
        if (routine(text) != 0) {
            return "no routine";
        }
        int size = desk.hold();
        return size == latestBreak().length() ? latestBreak() : "of another length";
    }

    String latestBreak() {
        StringBuilder all = new StringBuilder();
        for (int k = 0; desk.broken(k) != UsageDesk.NONE; k++) {
            all.append((char) ('a' + desk.broken(k)));
        }
        return all.toString();
    }

    String hand() {
        StringBuilder all = new StringBuilder();
        for (int k = 0; desk.hand(k) != UsageDesk.NONE; k++) {
            all.append((char) ('a' + desk.hand(k)));
        }
        return all.toString();
    }

    /** What comes of a row and its COST, as "abc 2". */
    String mended(String calls) {
        desk.empty();
        push(calls);
        int cost = desk.mend();
        return hand() + " " + cost;
    }

    /** All STEPS with how often they were SEEN, as "0a1:2 1b0:1". */
    String law() {
        StringBuilder all = new StringBuilder();
        for (int state = 0; state < desk.count(2); state++) {
            for (int call = 0; call < 8; call++) {
                if (desk.step(state, call) != UsageDesk.NONE) {
                    all.append(all.length() == 0 ? "" : " ").append(state).append((char) ('a' + call))
                            .append(desk.step(state, call)).append(':').append(desk.seen(state, call));
                }
            }
        }
        return all.toString();
    }

    String ranks(int from, int to) {
        StringBuilder all = new StringBuilder();
        for (int k = from; k < to; k++) {
            all.append(k == from ? "" : " ");
            all.append((char) ('a' + desk.rank(k, 0))).append((char) ('a' + desk.rank(k, 1)));
        }
        return all.toString();
    }
}
