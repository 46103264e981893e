import java.util.Random;
import java.util.function.IntSupplier;

/** Runs of made-up calls, all of whose answers are held against PlainDesk's. */
public final class RandomRunsTest {
    /** How many runs; another number may stand as the first argument. */
    private static final int RUNS = 1500;
    private static final int CALLS_A_RUN = 512;

    private final Checks checks;
    private final Random random;
    private final UsageDesk desk = new UsageDesk();
    private final PlainDesk plain = new PlainDesk();
    private final int letters;
    private final int longest;
    /** How many of the first calls tell ROWS alone, so that there are larger LAWS too. */
    private final int telling;
    private final int[][] hidden;
    private final int seed;
    private int calls;
    private String fed = "";
    private int walk;

    private RandomRunsTest(Checks checks, int seed) {
        this.checks = checks;
        this.seed = seed;
        random = new Random(seed);
        letters = 1 + random.nextInt(random.nextInt(4) == 0 ? 8 : 3);
        longest = 1 + random.nextInt(12);
        telling = random.nextInt(440);
        hidden = new int[1 + random.nextInt(random.nextBoolean() ? 7 : 30)][8];
        double dense = 0.4 + 0.6 * random.nextDouble();
        for (int[] steps : hidden) {
            for (int c = 0; c < 8; c++) {
                steps[c] = random.nextDouble() < dense ? random.nextInt(hidden.length) : -1;
            }
        }
    }

    public static void main(String[] args) {
        Checks checks = new Checks();
        int runs = args.length > 0 ? Integer.parseInt(args[0]) : RUNS;
        for (int seed = 0; seed < runs && checks.wrong() < 20; seed++) {
            new RandomRunsTest(checks, seed).run();
        }
        checks.end();
    }

    private void run() {
        while (calls < CALLS_A_RUN - 40 && checks.wrong() < 20) {
            int kind = calls < telling ? random.nextInt(37) : random.nextInt(100);
            if (kind < 35) {
                tellRow();
            } else if (kind < 37) {
                int row = random.nextInt(65) - 2;
                ask("drop " + row, () -> desk.drop(row) ? 1 : 0, () -> plain.drop(row) ? 1 : 0);
            } else if (kind < 50) {
                learnAndLook();
            } else if (kind < 65) {
                holdRoutine();
            } else if (kind < 80) {
                mendHand();
            } else {
                lookAround();
            }
        }
    }

    private void ask(String call, IntSupplier real, IntSupplier due) {
        calls++;
        checks.due("run " + seed + ", call " + calls + ": " + call, answer(real), answer(due));
    }

    private static String answer(IntSupplier call) {
        try {
            return Integer.toString(call.getAsInt());
        } catch (IndexOutOfBoundsException | IllegalArgumentException e) {
            return e.getClass().getSimpleName();
        }
    }

    private void push(int call) {
        ask("push " + call, () -> desk.push(call), () -> plain.push(call));
    }

    private void tellRow() {
        int kind = random.nextInt(12);
        int size = random.nextInt(longest + 1);
        int state = 0;
        boolean right = true;
        for (int i = 0; i < size && right; i++) {
            int call = random.nextInt(letters);
            push(call);
            right = hidden[state][call] >= 0;
            state = Math.max(0, hidden[state][call]);
        }
        boolean told = kind == 0 ? !right : right;
        ask("row " + told, () -> desk.row(told), () -> plain.row(told));
    }

    private void learnAndLook() {
        ask("learn", desk::learn, plain::learn);
        ask("least", desk::least, plain::least);
        for (int i = 0; i < 6; i++) {
            int state = random.nextInt(plain.count(2) + 1) - (random.nextInt(9) == 0 ? 1 : 0);
            int call = random.nextInt(letters + 1) - (random.nextInt(9) == 0 ? 1 : 0);
            ask("step " + state + " " + call, () -> desk.step(state, call), () -> plain.step(state, call));
            ask("seen " + state + " " + call, () -> desk.seen(state, call), () -> plain.seen(state, call));
        }
        int n = random.nextInt(5) - 1;
        ask("doubt " + n, () -> desk.doubt(n), () -> plain.doubt(n));
    }

    private void holdRoutine() {
        StringBuilder text = new StringBuilder();
        walk = 0;
        writeS(text, random.nextInt(4));
        if (random.nextInt(4) == 0 && text.length() > 0) {
            text.setCharAt(random.nextInt(text.length()), "abcdhi|()* A".charAt(random.nextInt(12)));
        }
        fed = text.length() > 60 ? text.substring(0, 60) : text.toString();
        for (int i = 0; i < fed.length() || i == 0 && random.nextBoolean(); i += 20) {
            int a = number(i);
            int b = number(i + 4);
            int c = number(i + 8);
            int d = number(i + 12);
            int e = number(i + 16);
            ask("feed", () -> desk.feed(a, b, c, d, e), () -> plain.feed(a, b, c, d, e));
        }
        int n = random.nextInt(10) == 0 ? random.nextInt(90) - 5 : fed.length();
        ask("routine " + n + " of " + fed, () -> desk.routine(n), () -> plain.routine(n));
        ask("hold of " + fed, desk::hold, plain::hold);
        for (int i = -1; i < 4; i++) {
            int k = i;
            ask("broken " + k, () -> desk.broken(k), () -> plain.broken(k));
        }
    }

    private int number(int place) {
        int value = 0;
        for (int i = place; i < place + 4; i++) {
            value = value << 8 | (i < fed.length() ? fed.charAt(i) : random.nextInt(256));
        }
        return value;
    }

    private void writeS(StringBuilder text, int deep) {
        int parts = random.nextInt(4);
        for (int i = 0; i < parts; i++) {
            blank(text);
            if (deep == 0 || random.nextBoolean()) {
                text.append(likelyLetter());
                continue;
            }
            text.append('(');
            writeS(text, deep - 1);
            for (int j = random.nextInt(3); j > 0; j--) {
                text.append('|');
                writeS(text, deep - 1);
            }
            text.append(')');
            blank(text);
            text.append(random.nextBoolean() ? "*" : "");
        }
        blank(text);
    }

    /** Mostly one that the hidden machine goes on by, so that breaks come late. */
    private char likelyLetter() {
        int call = random.nextInt(letters);
        for (int turn = 0; turn < 10 && hidden[walk][call] < 0; turn++) {
            call = random.nextInt(letters);
        }
        walk = Math.max(0, hidden[walk][call]);
        return (char) ('a' + call);
    }

    private void blank(StringBuilder text) {
        text.append(random.nextInt(10) == 0 ? " " : "");
    }

    private void mendHand() {
        int size = random.nextInt(14);
        walk = 0;
        for (int i = 0; i < size; i++) {
            boolean odd = random.nextInt(20) == 0;
            push(odd ? random.nextInt(10) - 1 : random.nextInt(4) == 0 ? random.nextInt(letters) : likelyLetter() - 'a');
        }
        ask("takes", desk::takes, plain::takes);
        ask("mend", desk::mend, plain::mend);
        for (int i = -1; i < 13; i++) {
            int k = i;
            ask("hand " + k, () -> desk.hand(k), () -> plain.hand(k));
        }
        if (random.nextInt(4) > 0) {
            ask("empty", desk::empty, plain::empty);
        }
    }

    private void lookAround() {
        int row = random.nextInt(40) - 1;
        int what = random.nextInt(10) - 1;
        int x = random.nextInt(letters);
        int y = random.nextInt(20) == 0 ? random.nextInt(12) - 2 : random.nextInt(letters);
        int k = random.nextInt(60) - 1;
        ask("told " + row + " " + what, () -> desk.told(row, what), () -> plain.told(row, what));
        ask("told " + row + " 3", () -> desk.told(row, 3), () -> plain.told(row, 3));
        ask("count " + what, () -> desk.count(what), () -> plain.count(what));
        ask("count 6", () -> desk.count(6), () -> plain.count(6));
        int two = random.nextInt(20) == 0 ? what : random.nextInt(2);
        ask("habit " + x + " " + y + " " + two, () -> desk.habit(x, y, two), () -> plain.habit(x, y, two));
        ask("rank " + k + " " + two, () -> desk.rank(k, two), () -> plain.rank(k, two));
        ask("rank " + k % 8 + " 1", () -> desk.rank(k % 8, 1), () -> plain.rank(k % 8, 1));
    }
}
