import java.util.Random;

/**
 * Any arguments in any state, also far behind the 512th call: nothing but the exceptions of the face
 * may come out, and every call must end.
 */
public final class AnyCallsTest {
    private static final int[] EDGES = {Integer.MIN_VALUE, -2, -1, 0, 1, 2, 3, 7, 8, 11, 12, 13, 16, 29, 30, 31, 56, 59, 60,
        61, 64, 199, 200, 201, 6029, 6030, 6031, Integer.MAX_VALUE};

    private final Random random;
    private final UsageDesk desk = new UsageDesk();

    private AnyCallsTest(int seed) {
        random = new Random(seed);
    }

    public static void main(String[] args) {
        Checks checks = new Checks();
        for (int seed = 0; seed < 60; seed++) {
            AnyCallsTest test = new AnyCallsTest(seed);
            test.fill(seed % 8 + 1);
            for (int i = 0; i < 1500; i++) {
                int method = test.random.nextInt(20);
                checks.due("seed " + seed + ", call " + i + ", method " + method, test.thrownBy(method), "");
            }
        }
        checks.end();
    }

    /** Sixty rows of twelve calls, more than a desk's 512 calls can tell. */
    private void fill(int letters) {
        for (int row = 0; row < 60; row++) {
            int size = 12 - random.nextInt(1 + random.nextInt(12));
            for (int i = 0; i < size; i++) {
                desk.push(random.nextInt(letters));
            }
            if (random.nextInt(50) > 0) {
                desk.row(random.nextInt(letters + 1) > 0);
            }
        }
    }

    private int any() {
        return random.nextInt(3) == 0 ? EDGES[random.nextInt(EDGES.length)] : random.nextInt(9);
    }

    private int bytes() {
        int value = 0;
        for (int i = 0; i < 4; i++) {
            value = value << 8 | "abcab(((||)))** ".charAt(random.nextInt(16));
        }
        return value;
    }

    /** The name of an exception that the called method's face does not have. */
    private String thrownBy(int method) {
        boolean index = method == 3 || method == 4 || method == 6 || method == 7;
        boolean argument = method == 0 || method == 4 || method == 6 || method == 7 || method == 12 || method >= 16 && method <= 17;
        try {
            call(method);
            return "";
        } catch (RuntimeException e) {
            boolean known = index && e.getClass() == IndexOutOfBoundsException.class
                    || argument && e.getClass() == IllegalArgumentException.class;
            return known ? "" : e.toString();
        }
    }

    private void call(int method) {
        switch (method) {
            case 0: desk.push(any()); break;
            case 1: desk.empty(); break;
            case 2: desk.hand(any()); break;
            case 3: desk.drop(any()); break;
            case 4: desk.told(any(), any()); break;
            case 5: desk.learn(); break;
            case 6: desk.step(any(), any()); break;
            case 7: desk.seen(any(), any()); break;
            case 8: desk.doubt(any()); break;
            case 9: desk.takes(); break;
            case 10: desk.least(); break;
            case 11: desk.feed(bytes(), bytes(), bytes(), bytes(), random.nextInt()); break;
            case 12: desk.routine(any()); break;
            case 13: desk.hold(); break;
            case 14: desk.broken(any()); break;
            case 15: desk.mend(); break;
            case 16: desk.habit(any(), any(), any()); break;
            case 17: desk.rank(any(), any()); break;
            case 18: desk.count(any()); break;
            default: desk.row(random.nextBoolean()); break;
        }
    }
}
