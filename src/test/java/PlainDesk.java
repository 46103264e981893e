import java.util.ArrayList;
import java.util.Arrays;
import java.util.HashMap;
import java.util.HashSet;
import java.util.LinkedHashMap;
import java.util.List;
import java.util.Map;
import java.util.Set;
import java.util.TreeSet;

/**
 * The document once more, in the slowest and plainest words that can be had (texts, sets, all ways
 * tried): what RandomRunsTest holds UsageDesk against. It shares no code and no method with it.
 */
final class PlainDesk {
    private static final class Row {
        final String calls;
        final boolean right;
        boolean there = true;

        Row(String calls, boolean right) {
            this.calls = calls;
            this.right = right;
        }
    }

    private String hand = "";
    private final List<Row> rows = new ArrayList<>();
    private String tape = "";
    private Node routine = new Node(' ');
    private String brk = "";
    /** The LAW: STEPS by STATE and letter, and how often they were SEEN. */
    private List<Map<Character, Integer>> law = new ArrayList<>(List.of(new HashMap<>()));
    private Map<String, Integer> seen = new HashMap<>();

    int push(int call) {
        letter(call);
        if (hand.length() == 12) {
            return -1;
        }
        hand += letter(call);
        return hand.length();
    }

    int empty() {
        int had = hand.length();
        hand = "";
        return had;
    }

    int hand(int k) {
        return k >= 0 && k < hand.length() ? hand.charAt(k) - 'a' : -1;
    }

    int row(boolean right) {
        if (!right && hand.isEmpty()) {
            return -1;
        }
        if (rows.size() == 60) {
            return -2;
        }
        rows.add(new Row(hand, right));
        hand = "";
        return rows.size() - 1;
    }

    boolean drop(int row) {
        boolean was = rowAt(row).there;
        rowAt(row).there = false;
        return was;
    }

    int told(int row, int what) {
        Row r = rowAt(row);
        if (what < 0 || what > 3) {
            throw new IllegalArgumentException();
        }
        if (what == 0) {
            return r.there ? 1 : 0;
        }
        if (what == 1) {
            return r.right ? 1 : 0;
        }
        if (what == 2) {
            return r.calls.length();
        }
        if (!r.there) {
            return 0;
        }
        return r.right ? cut(r).length() : binding().contains(r.calls) ? 0 : 1;
    }

    private Row rowAt(int row) {
        if (row < 0 || row >= rows.size()) {
            throw new IndexOutOfBoundsException();
        }
        return rows.get(row);
    }

    private static char letter(int call) {
        if (call < 0 || call > 7) {
            throw new IllegalArgumentException();
        }
        return (char) ('a' + call);
    }

    private String cut(Row right) {
        String best = null;
        for (Row w : rows) {
            if (w.there && !w.right && right.calls.startsWith(w.calls)
                    && (best == null || w.calls.length() < best.length())) {
                best = w.calls;
            }
        }
        return best == null ? right.calls : best.substring(0, best.length() - 1);
    }

    private List<String> cutRows() {
        List<String> all = new ArrayList<>();
        for (Row r : rows) {
            if (r.there && r.right) {
                all.add(cut(r));
            }
        }
        return all;
    }

    private Set<String> binding() {
        Set<String> all = new HashSet<>();
        for (Row w : rows) {
            boolean quarrels = false;
            for (Row r : rows) {
                quarrels |= r.there && r.right && r.calls.startsWith(w.calls);
            }
            if (w.there && !w.right && !quarrels) {
                all.add(w.calls);
            }
        }
        return all;
    }

    private List<String> nodes() {
        TreeSet<String> all = new TreeSet<>((x, y) ->
                x.length() != y.length() ? x.length() - y.length() : x.compareTo(y));
        all.add("");
        for (String row : cutRows()) {
            for (int i = 0; i <= row.length(); i++) {
                all.add(row.substring(0, i));
            }
        }
        return new ArrayList<>(all);
    }

    /** A MACHINE as a class number for each NODE: melts two and all that must follow. */
    private static int[] melted(List<String> nodes, int[] classes, int one, int other) {
        int[] now = classes.clone();
        rename(now, now[one], now[other]);
        boolean changed = true;
        while (changed) {
            changed = false;
            Map<String, Integer> leads = new HashMap<>();
            for (int n = 1; n < now.length; n++) {
                String word = nodes.get(n);
                int from = nodes.indexOf(word.substring(0, word.length() - 1));
                String step = now[from] + " " + word.charAt(word.length() - 1);
                Integer to = leads.putIfAbsent(step, now[n]);
                if (to != null && to != now[n]) {
                    rename(now, to, now[n]);
                    changed = true;
                    break;
                }
            }
        }
        return now;
    }

    private static void rename(int[] classes, int a, int b) {
        for (int i = 0; i < classes.length; i++) {
            if (classes[i] == a || classes[i] == b) {
                classes[i] = Math.min(a, b);
            }
        }
    }

    private static Map<String, Integer> steps(List<String> nodes, int[] classes) {
        Map<String, Integer> leads = new HashMap<>();
        for (int n = 1; n < classes.length; n++) {
            String word = nodes.get(n);
            int from = nodes.indexOf(word.substring(0, word.length() - 1));
            Integer was = leads.put(classes[from] + " " + word.charAt(word.length() - 1), classes[n]);
            if (was != null && was != classes[n]) {
                return null;
            }
        }
        return leads;
    }

    private static boolean takesAny(Map<String, Integer> leads, Set<String> words) {
        for (String word : words) {
            Integer at = 0;
            for (int i = 0; i < word.length() && at != null; i++) {
                at = leads.get(at + " " + word.charAt(i));
            }
            if (at != null) {
                return true;
            }
        }
        return false;
    }

    int learn() {
        List<String> nodes = nodes();
        int[] classes = new int[nodes.size()];
        for (int n = 0; n < classes.length; n++) {
            classes[n] = n;
        }
        List<Integer> kept = new ArrayList<>(List.of(0));
        Set<String> binding = binding();
        for (int n = 1; n < classes.length; n++) {
            if (classes[n] < n) {
                continue;
            }
            int[] found = null;
            for (int i = 0; i < kept.size() && found == null; i++) {
                int[] trial = melted(nodes, classes, kept.get(i), n);
                found = takesAny(steps(nodes, trial), binding) ? null : trial;
            }
            if (found != null) {
                classes = found;
            } else {
                kept.add(n);
            }
            if (kept.size() > 30) {
                return -1;
            }
        }
        law = new ArrayList<>();
        for (int i = 0; i < kept.size(); i++) {
            law.add(new HashMap<>());
        }
        for (Map.Entry<String, Integer> e : steps(nodes, classes).entrySet()) {
            int blank = e.getKey().indexOf(' ');
            int from = kept.indexOf(Integer.parseInt(e.getKey().substring(0, blank)));
            law.get(from).put(e.getKey().charAt(blank + 1), kept.indexOf(e.getValue()));
        }
        seen = new HashMap<>();
        for (String row : cutRows()) {
            int at = 0;
            for (char c : row.toCharArray()) {
                seen.merge(at + " " + c, 1, Integer::sum);
                at = law.get(at).get(c);
            }
        }
        return law.size();
    }

    int step(int state, int call) {
        if (state < 0 || state >= law.size()) {
            throw new IndexOutOfBoundsException();
        }
        return law.get(state).getOrDefault(letter(call), -1);
    }

    int seen(int state, int call) {
        return step(state, call) == -1 ? 0 : seen.get(state + " " + letter(call));
    }

    int doubt(int n) {
        int sum = 0;
        for (int times : seen.values()) {
            sum += times < n ? 1 : 0;
        }
        return sum;
    }

    int takes() {
        int n = 0;
        while (n < hand.length() && stateBehind(hand.substring(0, n + 1)) >= 0) {
            n++;
        }
        return n;
    }

    private int stateBehind(String word) {
        int at = 0;
        for (int i = 0; i < word.length() && at >= 0; i++) {
            at = law.get(at).getOrDefault(word.charAt(i), -1);
        }
        return at;
    }

    int least() {
        List<String> nodes = nodes();
        if (nodes.size() > 16) {
            return -1;
        }
        for (int most = 1; most <= 3; most++) {
            if (someClassesDo(nodes, new int[nodes.size()], 1, most, binding())) {
                return most;
            }
        }
        return 4;
    }

    /** Tries all ways to give the NODES classes; what a few of them get wrong more can't mend. */
    private static boolean someClassesDo(List<String> nodes, int[] classes, int n, int most, Set<String> no) {
        int[] head = Arrays.copyOf(classes, n);
        Map<String, Integer> leads = steps(nodes.subList(0, n), head);
        if (leads == null || takesAny(leads, no)) {
            return false;
        }
        if (n == classes.length) {
            return true;
        }
        for (int c = 0; c < most; c++) {
            classes[n] = c;
            if (someClassesDo(nodes, classes, n + 1, most, no)) {
                return true;
            }
        }
        return false;
    }

    int feed(int a, int b, int c, int d, int e) {
        if (tape.length() + 20 > 200) {
            return -1;
        }
        for (int number : new int[] {a, b, c, d, e}) {
            for (byte part : java.nio.ByteBuffer.allocate(4).putInt(number).array()) {
                tape += (char) (part & 255);
            }
        }
        return tape.length();
    }

    int routine(int n) {
        if (n < 0 || n > tape.length()) {
            throw new IllegalArgumentException();
        }
        String text = tape.substring(0, n);
        tape = "";
        try {
            Reader reader = new Reader(text);
            Node whole = new Node('(');
            whole.choices.add(reader.readS(0));
            if (reader.at < text.length()) {
                return -2 - reader.at;
            }
            routine = whole;
            return 0;
        } catch (Fault fault) {
            return -2 - fault.place;
        }
    }

    private static final class Fault extends RuntimeException {
        private static final long serialVersionUID = 1;
        final int place;

        Fault(int place) {
            this.place = place;
        }
    }

    /** A letter, or a bracket ( with its choices. */
    private static final class Node {
        final char sign;
        final List<List<Node>> choices = new ArrayList<>();
        boolean star;

        Node(char sign) {
            this.sign = sign;
        }
    }

    private static final class Reader {
        final String text;
        int at;

        Reader(String text) {
            this.text = text;
        }

        char look() {
            while (at < text.length() && text.charAt(at) == ' ') {
                at++;
            }
            return at < text.length() ? text.charAt(at) : 0;
        }

        List<Node> readS(int open) {
            List<Node> all = new ArrayList<>();
            while (true) {
                char c = look();
                if (c >= 'a' && c <= 'h') {
                    at++;
                    all.add(new Node(c));
                } else if (c == '(' && open < 10) {
                    at++;
                    all.add(readBracket(open + 1));
                } else {
                    return all;
                }
            }
        }

        Node readBracket(int open) {
            Node bracket = new Node('(');
            bracket.choices.add(readS(open));
            while (look() == '|') {
                at++;
                bracket.choices.add(readS(open));
            }
            if (look() != ')') {
                throw new Fault(at);
            }
            at++;
            if (look() == '*') {
                at++;
                bracket.star = true;
            }
            return bracket;
        }
    }

    /** All rests that a row of nodes may have behind a letter. */
    private static Set<List<Node>> behind(List<Node> rest, char letter, Set<List<Node>> tried) {
        Set<List<Node>> all = new HashSet<>();
        if (rest.isEmpty() || !tried.add(rest)) {
            return all;
        }
        Node first = rest.get(0);
        List<Node> others = rest.subList(1, rest.size());
        if (first.sign == letter) {
            all.add(others);
        }
        for (List<Node> choice : first.choices) {
            List<Node> longer = new ArrayList<>(choice);
            if (first.star) {
                longer.add(first);
            }
            longer.addAll(others);
            all.addAll(behind(longer, letter, tried));
        }
        if (first.star) {
            all.addAll(behind(others, letter, tried));
        }
        return all;
    }

    int hold() {
        brk = "";
        Map<String, Set<List<Node>>> level = new LinkedHashMap<>();
        level.put("", Set.of(List.of(routine)));
        Set<List<Object>> met = new HashSet<>();
        while (!level.isEmpty()) {
            Map<String, Set<List<Node>>> longer = new LinkedHashMap<>();
            for (Map.Entry<String, Set<List<Node>>> e : level.entrySet()) {
                for (char c = 'a'; c <= 'h'; c++) {
                    Set<List<Node>> rests = new HashSet<>();
                    for (List<Node> rest : e.getValue()) {
                        rests.addAll(behind(rest, c, new HashSet<>()));
                    }
                    int state = stateBehind(e.getKey() + c);
                    if (rests.isEmpty()) {
                        continue;
                    }
                    if (state < 0) {
                        brk = e.getKey() + c;
                        return brk.length();
                    }
                    if (met.add(List.of(state, rests))) {
                        longer.put(e.getKey() + c, rests);
                    }
                }
            }
            level = longer;
        }
        return 0;
    }

    int broken(int k) {
        return k >= 0 && k < brk.length() ? brk.charAt(k) - 'a' : -1;
    }

    int mend() {
        for (int cost = 0; ; cost++) {
            String made = mended(0, 0, cost, "", new HashSet<>());
            if (made != null) {
                if (made.length() > 12) {
                    return -1;
                }
                hand = made;
                return cost;
            }
        }
    }

    /** The first way that costs just as much; what is known to fail is not tried again. */
    private String mended(int place, int state, int cost, String made, Set<String> failed) {
        if (place == hand.length()) {
            return cost == 0 ? made : null;
        }
        String key = place + " " + state + " " + cost;
        if (failed.contains(key)) {
            return null;
        }
        Map<Character, Integer> steps = law.get(state);
        char next = hand.charAt(place);
        String way = null;
        if (steps.containsKey(next)) {
            way = mended(place + 1, steps.get(next), cost, made + next, failed);
        }
        if (way == null && cost > 0) {
            way = mended(place + 1, state, cost - 1, made, failed);
        }
        for (char c = 'a'; c <= 'h' && cost > 0 && way == null; c++) {
            if (steps.containsKey(c)) {
                way = mended(place, steps.get(c), cost - 1, made + c, failed);
            }
        }
        if (way == null) {
            failed.add(key);
        }
        return way;
    }

    int habit(int x, int y, int what) {
        char a = letter(x);
        char b = letter(y);
        if (what != 0 && what != 1) {
            throw new IllegalArgumentException();
        }
        int having = 0;
        int holding = 0;
        for (Row r : rows) {
            if (!r.there || !r.right || r.calls.indexOf(a) < 0) {
                continue;
            }
            having++;
            boolean all = true;
            for (int i = 0; i < r.calls.length(); i++) {
                all &= r.calls.charAt(i) != a || r.calls.indexOf(b, i + 1) >= 0;
            }
            holding += all ? 1 : 0;
        }
        return what == 0 ? having : holding;
    }

    int rank(int k, int what) {
        if (what != 0 && what != 1) {
            throw new IllegalArgumentException();
        }
        List<int[]> all = new ArrayList<>();
        for (int x = 0; x < 8; x++) {
            for (int y = 0; y < 8; y++) {
                if (x != y && habit(x, y, 0) > 0) {
                    all.add(new int[] {x, y, habit(x, y, 0), habit(x, y, 1)});
                }
            }
        }
        // sorting keeps the order by x and y of alike ones
        all.sort((p, q) -> p[3] * q[2] != q[3] * p[2]
                ? Integer.compare(q[3] * p[2], p[3] * q[2]) : Integer.compare(q[2], p[2]));
        return k >= 0 && k < all.size() ? all.get(k)[what] : -1;
    }

    int count(int what) {
        int there = 0;
        for (Row r : rows) {
            there += r.there ? 1 : 0;
        }
        int steps = 0;
        for (Map<Character, Integer> s : law) {
            steps += s.size();
        }
        int[] all = {there, rows.size(), law.size(), steps, hand.length(), tape.length(), nodes().size()};
        return what >= 0 && what < all.length ? all[what] : -1;
    }
}
