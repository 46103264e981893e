import java.util.Arrays;

/**
 * A desk that learns how a thing wants to be called from rows of calls that went well and rows
 * whose last call was refused. The words (ROW, CUT, TREE, LAW, ...) are those of the document.
 */
public final class UsageDesk {
    public static final int NONE = -1;

    private static final int CALLS = 8;
    private static final int ROW_MOST = 12;
    private static final int BOOK_MOST = 60;
    private static final int NODES_MOST = BOOK_MOST * ROW_MOST + 1;
    private static final int STATES_MOST = 30;
    private static final int LEAST_NODES = 16;
    private static final int LEAST_STATES = 3;
    private static final int TAPE_MOST = 200;
    private static final int FEED_BYTES = 20;
    private static final int OPEN_MOST = 10;
    /** A place in the ROUTINE (its end, too) together with a STATE of the LAW. */
    private static final int PAIRS_MOST = (TAPE_MOST + 1) * STATES_MOST;

    private static final int NO_CALLS = -1;
    private static final int BOOK_FULL = -2;
    private static final int SPENT = -1;
    private static final int TOO_LONG = -1;

    private final Line inHand;
    private final Book book;
    private final Tree tree;
    private final Melter melter;
    private final Law law;
    private final Fewest fewest;
    private final Line tape;
    private final Routine latest;
    private final Holder holder;
    private final Mender mender;
    private final Habits habits;

    public UsageDesk() {
        inHand = new Line(ROW_MOST);
        book = new Book();
        tree = new Tree(book);
        melter = new Melter(book, tree);
        law = new Law();
        fewest = new Fewest(book, tree);
        tape = new Line(TAPE_MOST);
        latest = new Routine();
        holder = new Holder(latest, law);
        mender = new Mender(inHand, law);
        habits = new Habits(book);
    }

    public int push(int call) throws IllegalArgumentException {
        if (!isCall(call)) {
            throw new IllegalArgumentException("no such call");
        }
        return inHand.append(call) ? inHand.size : NONE;
    }

    public int empty() {
        int had = inHand.size;
        inHand.size = 0;
        return had;
    }

    public int hand(int k) {
        return inHand.at(k);
    }

    public int row(boolean right) {
        if (!right && inHand.size == 0) {
            return NO_CALLS;
        }
        if (book.told >= BOOK_MOST) {
            return BOOK_FULL;
        }
        int number = book.enter(inHand, right);
        inHand.size = 0;
        return number;
    }

    public boolean drop(int row) throws IndexOutOfBoundsException {
        if (!book.knows(row)) {
            throw new IndexOutOfBoundsException("no such row was told");
        }
        boolean was = book.there[row];
        book.there[row] = false;
        return was;
    }

    public int told(int row, int what) throws IndexOutOfBoundsException, IllegalArgumentException {
        if (!book.knows(row)) {
            throw new IndexOutOfBoundsException("no such row was told");
        }
        switch (what) {
            case 0:
                return book.there[row] ? 1 : 0;
            case 1:
                return book.right[row] ? 1 : 0;
            case 2:
                return book.sizeOf(row);
            case 3:
                return book.standingOf(row);
            default:
                throw new IllegalArgumentException("no such what");
        }
    }

    public int learn() {
        tree.grow();
        if (!melter.meltAll()) {
            return SPENT;
        }
        melter.writeInto(law);
        law.countOver(book, tree);
        return law.states;
    }

    public int step(int state, int call) throws IndexOutOfBoundsException, IllegalArgumentException {
        checkStep(state, call);
        return law.after(state, call);
    }

    public int seen(int state, int call) throws IndexOutOfBoundsException, IllegalArgumentException {
        checkStep(state, call);
        return law.timesOver(state, call);
    }

    public int doubt(int n) {
        return law.stepsBelow(n);
    }

    public int takes() {
        int state = 0;
        for (int i = 0; i < inHand.size; i++) {
            state = law.after(state, inHand.at(i));
            if (state == NONE) {
                return i;
            }
        }
        return inHand.size;
    }

    public int least() {
        tree.grow();
        return tree.size > LEAST_NODES ? NONE : fewest.states();
    }

    public int feed(int a, int b, int c, int d, int e) {
        if (tape.size > TAPE_MOST - FEED_BYTES) {
            return NONE;
        }
        addBytes(a);
        addBytes(b);
        addBytes(c);
        addBytes(d);
        addBytes(e);
        return tape.size;
    }

    public int routine(int n) throws IllegalArgumentException {
        if (n < 0 || n > tape.size) {
            throw new IllegalArgumentException("the tape has not so many bytes");
        }
        tape.size = 0;
        int place = Routine.faultIn(tape.cells, n);
        if (place != NONE) {
            return -2 - place;
        }
        latest.replaceBy(tape.cells, n);
        return 0;
    }

    public int hold() {
        holder.findBreak();
        return holder.found.size;
    }

    public int broken(int k) {
        return holder.found.at(k);
    }

    public int mend() {
        int cost = mender.mendHand();
        return cost == NONE ? TOO_LONG : cost;
    }

    public int habit(int x, int y, int what) throws IllegalArgumentException {
        if (!isCall(x) || !isCall(y)) {
            throw new IllegalArgumentException("no such call");
        }
        if (what != 0 && what != 1) {
            throw new IllegalArgumentException("no such what");
        }
        habits.survey();
        return what == 0 ? habits.having(x) : habits.holding(x, y);
    }

    public int rank(int k, int what) throws IllegalArgumentException {
        if (what != 0 && what != 1) {
            throw new IllegalArgumentException("no such what");
        }
        habits.survey();
        int found = habits.atRank(k);
        if (found == NONE) {
            return NONE;
        }
        return what == 0 ? found / CALLS : found % CALLS;
    }

    public int count(int what) {
        switch (what) {
            case 0:
                return book.countThere();
            case 1:
                return book.told;
            case 2:
                return law.states;
            case 3:
                return law.countSteps();
            case 4:
                return inHand.size;
            case 5:
                return tape.size;
            case 6:
                tree.grow();
                return tree.size;
            default:
                return NONE;
        }
    }

    private void checkStep(int state, int call) {
        if (!law.hasState(state)) {
            throw new IndexOutOfBoundsException("no such state");
        }
        if (!isCall(call)) {
            throw new IllegalArgumentException("no such call");
        }
    }

    private void addBytes(int number) {
        for (int shift = 24; shift >= 0; shift -= 8) {
            tape.append((number >>> shift) & 255);
        }
    }

    private static boolean isCall(int call) {
        return call >= 0 && call < CALLS;
    }

    /** Numbers behind one another, up to a limit: the HAND's CALLS, the TAPE's bytes. */
    private static final class Line {
        final int[] cells;
        int size;

        Line(int most) {
            cells = new int[Math.max(most, 0)];
        }

        boolean append(int number) {
            if (size < 0 || size >= cells.length) {
                return false;
            }
            cells[size] = number;
            size++;
            return true;
        }

        int at(int k) {
            return k >= 0 && k < size && k < cells.length ? cells[k] : NONE;
        }

        void turnRound() {
            for (int low = 0, high = size - 1; low < high && high < cells.length; low++, high--) {
                int number = cells[low];
                cells[low] = cells[high];
                cells[high] = number;
            }
        }
    }

    /** All ROWS that were told, with what quarrels among those that are there. */
    private static final class Book {
        final int[] calls = new int[BOOK_MOST * ROW_MOST];
        final int[] sizes = new int[BOOK_MOST];
        final boolean[] right = new boolean[BOOK_MOST];
        final boolean[] there = new boolean[BOOK_MOST];
        /** The WRONG ROWS that bind: those that are there and not left out. */
        final int[] binding = new int[BOOK_MOST];
        int bindingSize;
        int told;

        boolean knows(int row) {
            return row >= 0 && row < told && row < BOOK_MOST;
        }

        int enter(Line hand, boolean isRight) {
            if (told < 0 || told >= BOOK_MOST) {
                return NONE;
            }
            for (int i = 0; i < hand.size && i < ROW_MOST; i++) {
                calls[told * ROW_MOST + i] = hand.at(i);
            }
            sizes[told] = hand.size;
            right[told] = isRight;
            there[told] = true;
            told++;
            return told - 1;
        }

        int sizeOf(int row) {
            return knows(row) ? sizes[row] : 0;
        }

        int callAt(int row, int place) {
            if (row < 0 || row >= BOOK_MOST || place < 0 || place >= ROW_MOST) {
                return NONE;
            }
            return calls[row * ROW_MOST + place];
        }

        boolean isRightThere(int row) {
            return knows(row) && there[row] && right[row];
        }

        boolean isWrongThere(int row) {
            return knows(row) && there[row] && !right[row];
        }

        int countThere() {
            int sum = 0;
            for (int row = 0; row < told && row < BOOK_MOST; row++) {
                sum += there[row] ? 1 : 0;
            }
            return sum;
        }

        int standingOf(int row) {
            if (isRightThere(row)) {
                return cutSize(row);
            }
            return isWrongThere(row) && isLeftOut(row) ? 1 : 0;
        }

        int cutSize(int well) {
            int cut = sizeOf(well);
            for (int row = 0; row < told; row++) {
                // only a shorter cut matters, so longer WRONG ROWS need no comparison
                if (isWrongThere(row) && sizeOf(row) <= cut && beginsWith(well, row)) {
                    cut = sizeOf(row) - 1;
                }
            }
            return cut;
        }

        boolean isLeftOut(int wrong) {
            for (int row = 0; row < told; row++) {
                if (isRightThere(row) && beginsWith(row, wrong)) {
                    return true;
                }
            }
            return false;
        }

        void gatherBinding() {
            bindingSize = 0;
            for (int row = 0; row < told && row < BOOK_MOST; row++) {
                if (isWrongThere(row) && !isLeftOut(row)) {
                    binding[bindingSize] = row;
                    bindingSize++;
                }
            }
        }

        private boolean beginsWith(int row, int start) {
            int size = sizeOf(start);
            if (size > sizeOf(row)) {
                return false;
            }
            for (int i = 0; i < size; i++) {
                if (callAt(row, i) != callAt(start, i)) {
                    return false;
                }
            }
            return true;
        }
    }

    /** The beginnings of all CUT ROWS; a child's number is NONE where there is none. */
    private static final class Tree {
        private static final int WANTED = -2;

        final Book book;
        final int[] child = new int[NODES_MOST * CALLS];
        final int[] parent = new int[NODES_MOST];
        final int[] lastCall = new int[NODES_MOST];
        final int[] cut = new int[BOOK_MOST];
        final int[] reached = new int[BOOK_MOST];
        int size;

        Tree(Book rows) {
            book = rows;
        }

        int childOf(int node, int call) {
            if (node < 0 || node >= NODES_MOST || call < 0 || call >= CALLS) {
                return NONE;
            }
            return child[node * CALLS + call];
        }

        /** Level by level, so that the numbers come out by length and then by CALLS. */
        void grow() {
            size = 0;
            addNode(NONE, NONE);
            for (int row = 0; row < BOOK_MOST; row++) {
                cut[row] = book.isRightThere(row) ? book.cutSize(row) : 0;
                reached[row] = 0;
            }
            int levelStart = 0;
            for (int length = 0; length < ROW_MOST && levelStart < size; length++) {
                int levelEnd = size;
                askForChildren(length);
                nameChildren(levelStart, levelEnd);
                goDown(length);
                levelStart = levelEnd;
            }
        }

        private int addNode(int from, int call) {
            if (size >= NODES_MOST) {
                return NONE;
            }
            parent[size] = from;
            lastCall[size] = call;
            for (int i = 0; i < CALLS; i++) {
                child[size * CALLS + i] = NONE;
            }
            size++;
            return size - 1;
        }

        private void askForChildren(int length) {
            for (int row = 0; row < BOOK_MOST; row++) {
                int node = reached[row];
                int call = book.callAt(row, length);
                if (cut[row] > length && node >= 0 && node < NODES_MOST && isCall(call)) {
                    child[node * CALLS + call] = WANTED;
                }
            }
        }

        private void nameChildren(int start, int end) {
            for (int node = start; node < end && node < NODES_MOST; node++) {
                for (int call = 0; call < CALLS; call++) {
                    if (child[node * CALLS + call] == WANTED) {
                        child[node * CALLS + call] = addNode(node, call);
                    }
                }
            }
        }

        private void goDown(int length) {
            for (int row = 0; row < BOOK_MOST; row++) {
                if (cut[row] > length) {
                    reached[row] = childOf(reached[row], book.callAt(row, length));
                }
            }
        }
    }

    /**
     * Makes the TREE a smaller MACHINE by LEARN's rule. It works in the TREE's own children, and
     * writes down what a trial changes, so that a trial that fails can be taken back cheaply.
     */
    private static final class Melter {
        final Book book;
        final Tree tree;
        /** The node that a node was MELTED into; a node that stands alone has itself. */
        final int[] into = new int[NODES_MOST];
        final int[] kept = new int[STATES_MOST];
        final int[] stateOf = new int[NODES_MOST];
        final int[] pairLeft = new int[NODES_MOST];
        final int[] pairRight = new int[NODES_MOST];
        final int[] meltedNodes = new int[NODES_MOST];
        final int[] changedSlots = new int[NODES_MOST * CALLS];
        int keptSize;
        int pairSize;
        int meltedSize;
        int changedSize;

        Melter(Book rows, Tree beginnings) {
            book = rows;
            tree = beginnings;
        }

        /** False: SPENT. */
        boolean meltAll() {
            book.gatherBinding();
            for (int node = 0; node < tree.size && node < NODES_MOST; node++) {
                into[node] = node;
                stateOf[node] = NONE;
            }
            kept[0] = 0;
            keptSize = 1;
            for (int node = 1; node < tree.size && node < NODES_MOST; node++) {
                if (into[node] != node || meltsWithKept(node)) {
                    continue;
                }
                if (keptSize >= STATES_MOST) {
                    return false;
                }
                kept[keptSize] = node;
                keptSize++;
            }
            return true;
        }

        void writeInto(Law law) {
            for (int state = 0; state < keptSize && state < STATES_MOST; state++) {
                int node = kept[state];
                if (node >= 0 && node < NODES_MOST) {
                    stateOf[node] = state;
                }
            }
            law.clear(keptSize);
            for (int state = 0; state < keptSize && state < STATES_MOST; state++) {
                for (int call = 0; call < CALLS; call++) {
                    int node = standing(tree.childOf(kept[state], call));
                    if (node >= 0 && node < NODES_MOST) {
                        law.setStep(state, call, stateOf[node]);
                    }
                }
            }
        }

        private boolean meltsWithKept(int node) {
            for (int i = 0; i < keptSize && i < STATES_MOST; i++) {
                melt(kept[i], node);
                if (!takesBindingRow()) {
                    shortenWays();
                    return true;
                }
                takeBack();
            }
            return false;
        }

        private void melt(int left, int right) {
            meltedSize = 0;
            changedSize = 0;
            pairSize = 0;
            addPair(left, right);
            // each pair but the first one uses up a STEP, so there are never more than NODES
            for (int turn = 0; turn < NODES_MOST && pairSize > 0; turn++) {
                pairSize--;
                int a = standing(pairLeft[pairSize]);
                int b = standing(pairRight[pairSize]);
                if (a != b && a != NONE && b != NONE) {
                    join(Math.min(a, b), Math.max(a, b));
                }
            }
        }

        private void addPair(int left, int right) {
            if (pairSize >= 0 && pairSize < NODES_MOST) {
                pairLeft[pairSize] = left;
                pairRight[pairSize] = right;
                pairSize++;
            }
        }

        private void join(int low, int high) {
            if (low < 0 || high >= NODES_MOST || meltedSize >= NODES_MOST) {
                return;
            }
            into[high] = low;
            meltedNodes[meltedSize] = high;
            meltedSize++;
            for (int call = 0; call < CALLS; call++) {
                int gained = tree.child[high * CALLS + call];
                int slot = low * CALLS + call;
                if (gained == NONE) {
                    continue;
                }
                if (tree.child[slot] != NONE) {
                    addPair(gained, tree.child[slot]);
                } else if (changedSize < NODES_MOST * CALLS) {
                    tree.child[slot] = gained;
                    changedSlots[changedSize] = slot;
                    changedSize++;
                }
            }
        }

        private void takeBack() {
            for (int i = 0; i < changedSize; i++) {
                int slot = changedSlots[i];
                if (slot >= 0 && slot < NODES_MOST * CALLS) {
                    tree.child[slot] = NONE;
                }
            }
            for (int i = 0; i < meltedSize; i++) {
                int node = meltedNodes[i];
                if (node >= 0 && node < NODES_MOST) {
                    into[node] = node;
                }
            }
        }

        /** One way for each node straight to where it stands, so that later ways stay short. */
        private void shortenWays() {
            for (int node = 0; node < tree.size && node < NODES_MOST; node++) {
                into[node] = standing(node);
            }
        }

        private int standing(int node) {
            int at = node;
            for (int turn = 0; turn < NODES_MOST; turn++) {
                if (at < 0 || at >= NODES_MOST || into[at] == at) {
                    break;
                }
                at = into[at];
            }
            return at >= 0 && at < NODES_MOST ? at : NONE;
        }

        private boolean takesBindingRow() {
            for (int i = 0; i < book.bindingSize && i < BOOK_MOST; i++) {
                if (takesRow(book.binding[i])) {
                    return true;
                }
            }
            return false;
        }

        private boolean takesRow(int row) {
            int node = 0;
            int size = book.sizeOf(row);
            for (int i = 0; i < size; i++) {
                node = standing(tree.childOf(node, book.callAt(row, i)));
                if (node == NONE) {
                    return false;
                }
            }
            return true;
        }
    }

    /** The MACHINE that was LEARNT last, with how often each STEP was SEEN. */
    private static final class Law {
        final int[] next = new int[STATES_MOST * CALLS];
        final int[] times = new int[STATES_MOST * CALLS];
        int states;

        Law() {
            Arrays.fill(next, NONE);
            states = 1;
        }

        void clear(int newStates) {
            Arrays.fill(next, NONE);
            Arrays.fill(times, 0);
            states = newStates;
        }

        boolean hasState(int state) {
            return state >= 0 && state < states && state < STATES_MOST;
        }

        void setStep(int state, int call, int to) {
            if (hasState(state) && isCall(call)) {
                next[state * CALLS + call] = to;
            }
        }

        int after(int state, int call) {
            return hasState(state) && isCall(call) ? next[state * CALLS + call] : NONE;
        }

        int timesOver(int state, int call) {
            return hasState(state) && isCall(call) ? times[state * CALLS + call] : 0;
        }

        void countOver(Book book, Tree tree) {
            for (int row = 0; row < book.told && row < BOOK_MOST; row++) {
                countRow(book, row, tree.cut[row]);
            }
        }

        private void countRow(Book book, int row, int size) {
            int state = 0;
            for (int i = 0; i < size && i < ROW_MOST; i++) {
                int call = book.callAt(row, i);
                int to = after(state, call);
                if (to == NONE) {
                    return;
                }
                times[state * CALLS + call]++;
                state = to;
            }
        }

        int countSteps() {
            int sum = 0;
            for (int slot = 0; slot < STATES_MOST * CALLS; slot++) {
                sum += next[slot] != NONE ? 1 : 0;
            }
            return sum;
        }

        int stepsBelow(int n) {
            int sum = 0;
            for (int slot = 0; slot < STATES_MOST * CALLS; slot++) {
                sum += next[slot] != NONE && times[slot] < n ? 1 : 0;
            }
            return sum;
        }
    }

    /**
     * LEAST, by giving the NODES of the TREE STATES in all ways. That finds the fewest: in any
     * MACHINE that will do, the STEPS that CUT ROWS use are enough, and they come of such a way.
     */
    private static final class Fewest {
        private static final int EARLIER = -2;

        final Book book;
        final Tree tree;
        final int[] next = new int[LEAST_STATES * CALLS];
        final int[] stateOf = new int[LEAST_NODES];
        int allowed;

        Fewest(Book rows, Tree beginnings) {
            book = rows;
            tree = beginnings;
        }

        int states() {
            book.gatherBinding();
            for (int tried = 1; tried <= LEAST_STATES; tried++) {
                allowed = tried;
                Arrays.fill(next, NONE);
                stateOf[0] = 0;
                if (placeFrom(1, 1)) {
                    return tried;
                }
            }
            return LEAST_STATES + 1;
        }

        /** STATES are taken into use in order, for their names do not matter. */
        private boolean placeFrom(int node, int used) {
            if (node >= tree.size || node >= LEAST_NODES) {
                return true;
            }
            int slot = slotInto(node);
            if (slot == NONE) {
                return false;
            }
            if (next[slot] == NONE) {
                return placeFree(node, used, slot);
            }
            stateOf[node] = next[slot];
            return placeFrom(node + 1, used);
        }

        /** Places a NODE whose STEP leads nowhere yet. */
        private boolean placeFree(int node, int used, int slot) {
            if (node < 0 || node >= LEAST_NODES || slot < 0 || slot >= LEAST_STATES * CALLS) {
                return false;
            }
            for (int state = 0; state <= used && state < allowed; state++) {
                next[slot] = state;
                stateOf[node] = state;
                if (!isLost(node, barredSlots()) && placeFrom(node + 1, Math.max(used, state + 1))) {
                    return true;
                }
            }
            next[slot] = NONE;
            return false;
        }

        /** The STEP into a NODE; its parent has a STATE, for it has a lower number. */
        private int slotInto(int node) {
            if (node < 0 || node >= LEAST_NODES) {
                return NONE;
            }
            return slotOf(stateAt(tree.parent[node]), tree.lastCall[node]);
        }

        private int stateAt(int node) {
            return node >= 0 && node < LEAST_NODES ? stateOf[node] : NONE;
        }

        private static int slotOf(int state, int call) {
            return state >= 0 && state < LEAST_STATES && isCall(call) ? state * CALLS + call : NONE;
        }

        /**
         * Whether a binding ROW is taken, or a NODE that is not placed yet will need a STEP by which
         * one would be: seen now, it spares going through all ways of the NODES between.
         */
        private boolean isLost(int placed, int barred) {
            if (barred == NONE) {
                return true;
            }
            for (int node = placed + 1; node < tree.size && node < LEAST_NODES; node++) {
                int slot = tree.parent[node] <= placed ? slotInto(node) : NONE;
                if (slot != NONE && ((barred >>> slot) & 1) == 1) {
                    return true;
                }
            }
            return false;
        }

        /** A bit for each STEP with which a binding ROW would be taken; NONE: one is taken. */
        private int barredSlots() {
            int barred = 0;
            for (int i = 0; i < book.bindingSize && i < BOOK_MOST; i++) {
                int slot = slotLackedBy(book.binding[i]);
                if (slot == NONE) {
                    return NONE;
                }
                barred |= slot == EARLIER ? 0 : 1 << slot;
            }
            return barred;
        }

        /** The STEP that a ROW's last CALL lacks; EARLIER: one ahead of it lacks one; NONE: none. */
        private int slotLackedBy(int row) {
            int state = 0;
            int size = book.sizeOf(row);
            for (int i = 0; i < size; i++) {
                int slot = slotOf(state, book.callAt(row, i));
                if (slot == NONE) {
                    return EARLIER;
                }
                if (next[slot] == NONE) {
                    return i == size - 1 ? slot : EARLIER;
                }
                state = next[slot];
            }
            return NONE;
        }
    }

    /** The ROUTINE's text, with where its brackets and bars lead. */
    private static final class Routine {
        final int[] text = new int[TAPE_MOST];
        /** Of ( and of |: the | or ) that ends the S behind it. */
        final int[] sEnd = new int[TAPE_MOST];
        /** Of |: the ) of its bracket; of (: too; of ): its (. */
        final int[] partner = new int[TAPE_MOST];
        /** Of ): the place behind the bracket, and behind its * if there is one. */
        final int[] behind = new int[TAPE_MOST];
        final boolean[] repeated = new boolean[TAPE_MOST];
        final int[] openAt = new int[OPEN_MOST];
        final int[] latestStart = new int[OPEN_MOST];
        int size;

        /** The PLACE of a text that is none; NONE of a good one. */
        static int faultIn(int[] bytes, int length) {
            int open = 0;
            boolean starMayStand = false;
            for (int i = 0; i < length && i < bytes.length; i++) {
                int sign = bytes[i];
                if (sign == ' ') {
                    continue;
                }
                if (!mayStand(sign, open, starMayStand)) {
                    return i;
                }
                open += sign == '(' ? 1 : sign == ')' ? -1 : 0;
                starMayStand = sign == ')';
            }
            return open == 0 ? NONE : length;
        }

        private static boolean mayStand(int sign, int open, boolean starMayStand) {
            switch (sign) {
                case '(':
                    return open < OPEN_MOST;
                case ')':
                case '|':
                    return open > 0;
                case '*':
                    return starMayStand;
                default:
                    return sign >= 'a' && sign <= 'h';
            }
        }

        void replaceBy(int[] bytes, int length) {
            size = 0;
            for (int i = 0; i < length && i < bytes.length && i < TAPE_MOST; i++) {
                text[i] = bytes[i];
                size++;
            }
            int open = 0;
            for (int i = 0; i < size; i++) {
                if (text[i] == '(' && open < OPEN_MOST) {
                    openAt[open] = i;
                    latestStart[open] = i;
                    open++;
                } else if (text[i] == '|' && open > 0) {
                    endS(latestStart[open - 1], i);
                    latestStart[open - 1] = i;
                } else if (text[i] == ')' && open > 0) {
                    open--;
                    endS(latestStart[open], i);
                    closeBracket(openAt[open], i);
                }
            }
        }

        private void endS(int start, int end) {
            if (start >= 0 && start < TAPE_MOST) {
                sEnd[start] = end;
            }
        }

        private void closeBracket(int start, int end) {
            int at = start;
            for (int turn = 0; turn < size && at >= 0 && at < end; turn++) {
                partner[at] = end;
                at = sEnd[at];
            }
            partner[end] = start;
            int star = end + 1;
            while (star < size && text[star] == ' ') {
                star++;
            }
            repeated[end] = star < size && text[star] == '*';
            behind[end] = repeated[end] ? star + 1 : end + 1;
        }

        /** The CALL at a place; NONE: there is another sign. */
        int callAt(int place) {
            if (place < 0 || place >= size || place >= TAPE_MOST) {
                return NONE;
            }
            return isCall(text[place] - 'a') ? text[place] - 'a' : NONE;
        }
    }

    /**
     * Holds the ROUTINE against the LAW. A group is one beginning of WAYS that the LAW TAKES, with
     * all places of the text to which it may lead and no earlier beginning led in the same STATE;
     * groups come by length and then by letters, so that the first break is the BREAK.
     */
    private static final class Holder {
        final Routine text;
        final Law law;
        /** Pairs place * STATES_MOST + STATE, those of one group behind one another. */
        final int[] pairs = new int[PAIRS_MOST];
        final boolean[] met = new boolean[PAIRS_MOST];
        final int[] groupStart = new int[PAIRS_MOST + 1];
        final int[] groupFrom = new int[PAIRS_MOST];
        final int[] groupCall = new int[PAIRS_MOST];
        /** The BREAK, which stays whatever becomes of ROUTINE and LAW. */
        final Line found = new Line(PAIRS_MOST + 1);
        int pairSize;
        int groupSize;

        Holder(Routine routineText, Law machine) {
            text = routineText;
            law = machine;
        }

        void findBreak() {
            for (int pair = 0; pair < (text.size + 1) * STATES_MOST && pair < PAIRS_MOST; pair++) {
                met[pair] = false;
            }
            pairSize = 0;
            groupSize = 0;
            found.size = 0;
            meet(0, 0);
            closeGroup(NONE, NONE);
            for (int group = 0; group < groupSize && group < PAIRS_MOST; group++) {
                for (int call = 0; call < CALLS; call++) {
                    if (breaks(group, call)) {
                        writeBreak(group, call);
                        return;
                    }
                    closeGroup(group, call);
                }
            }
        }

        /** Whether a WAY goes on by a CALL for which the LAW has no STEP; else goes on by it. */
        private boolean breaks(int group, int call) {
            int start = groupStart[group];
            int end = groupStart[group + 1];
            for (int i = start; i >= 0 && i < end && i < PAIRS_MOST; i++) {
                int place = pairs[i] / STATES_MOST;
                if (text.callAt(place) != call) {
                    continue;
                }
                int state = law.after(pairs[i] % STATES_MOST, call);
                if (state == NONE) {
                    return true;
                }
                meet(place + 1, state);
            }
            return false;
        }

        private void meet(int place, int state) {
            if (place < 0 || place > TAPE_MOST || state < 0 || state >= STATES_MOST) {
                return;
            }
            int pair = place * STATES_MOST + state;
            if (!met[pair] && pairSize < PAIRS_MOST) {
                met[pair] = true;
                pairs[pairSize] = pair;
                pairSize++;
            }
        }

        /** What was met since the last group is one, if there is anything. */
        private void closeGroup(int from, int call) {
            int start = groupSize == 0 ? 0 : groupStart[groupSize];
            if (start == pairSize || groupSize >= PAIRS_MOST) {
                return;
            }
            for (int i = start; i < pairSize && i < PAIRS_MOST; i++) {
                spread(pairs[i] / STATES_MOST, pairs[i] % STATES_MOST);
            }
            groupStart[groupSize] = start;
            groupFrom[groupSize] = from;
            groupCall[groupSize] = call;
            groupSize++;
            groupStart[groupSize] = pairSize;
        }

        /** Meets all places that can be reached from one without a CALL. */
        private void spread(int place, int state) {
            if (place < 0 || place >= text.size || place >= TAPE_MOST) {
                return;
            }
            switch (text.text[place]) {
                case ' ':
                    meet(place + 1, state);
                    break;
                case '(':
                    enterBracket(place, state);
                    break;
                case '|':
                    meet(text.partner[place], state);
                    break;
                case ')':
                    meet(text.behind[place], state);
                    if (text.repeated[place]) {
                        meet(text.partner[place], state);
                    }
                    break;
                default:
                    break;
            }
        }

        private void enterBracket(int start, int state) {
            int end = text.partner[start];
            int at = start;
            for (int turn = 0; turn < TAPE_MOST && at >= 0 && at < end && at < TAPE_MOST; turn++) {
                meet(at + 1, state);
                at = text.sEnd[at];
            }
            if (end >= 0 && end < TAPE_MOST && text.repeated[end]) {
                meet(text.behind[end], state);
            }
        }

        /** From its last CALL back to its first one, and then turned round. */
        private void writeBreak(int group, int call) {
            found.append(call);
            int at = group;
            for (int turn = 0; turn < PAIRS_MOST && at > 0 && at < PAIRS_MOST; turn++) {
                found.append(groupCall[at]);
                at = groupFrom[at];
            }
            found.turnRound();
        }
    }

    /** Mends the HAND by the LAW: costs from the last place on, then the first of the cheapest ways. */
    private static final class Mender {
        final Line hand;
        final Law law;
        /** The fewest changes from a place of the HAND and a STATE on. */
        final int[] costs = new int[(ROW_MOST + 1) * STATES_MOST];
        /** What comes of the HAND: twice its limit, for a COST is never more than that. */
        final Line made = new Line(2 * ROW_MOST);
        int place;
        int state;

        Mender(Line row, Law machine) {
            hand = row;
            law = machine;
        }

        /** The COST; NONE, and the HAND stays: it would be too long. */
        int mendHand() {
            reckonCosts();
            goCheapestWay();
            if (made.size > ROW_MOST) {
                return NONE;
            }
            int cost = costFrom(0, 0);
            hand.size = 0;
            for (int i = 0; i < made.size; i++) {
                hand.append(made.at(i));
            }
            return cost;
        }

        private int costFrom(int at, int from) {
            if (at < 0 || at > ROW_MOST || from < 0 || from >= STATES_MOST) {
                return ROW_MOST + 1;
            }
            return costs[at * STATES_MOST + from];
        }

        private void reckonCosts() {
            Arrays.fill(costs, 0);
            for (int at = hand.size - 1; at >= 0 && at < ROW_MOST; at--) {
                for (int from = 0; from < law.states && from < STATES_MOST; from++) {
                    int taken = 1 + costFrom(at + 1, from);
                    int kept = costKeeping(at, from);
                    costs[at * STATES_MOST + from] = Math.min(taken, kept);
                }
                boolean better = true;
                // a cost is at most the HAND's length, and each round settles one cost more
                for (int round = 0; round <= ROW_MOST && better; round++) {
                    better = lowerByPutting(at);
                }
            }
        }

        private int costKeeping(int at, int from) {
            int to = law.after(from, hand.at(at));
            return to == NONE ? ROW_MOST + 1 : costFrom(at + 1, to);
        }

        private int costPutting(int at, int from, int call) {
            int to = law.after(from, call);
            return to == NONE ? ROW_MOST + 1 : 1 + costFrom(at, to);
        }

        private boolean lowerByPutting(int at) {
            boolean better = false;
            for (int from = 0; from < law.states && from < STATES_MOST; from++) {
                for (int call = 0; call < CALLS; call++) {
                    int cost = costPutting(at, from, call);
                    if (at >= 0 && at < ROW_MOST && cost < costs[at * STATES_MOST + from]) {
                        costs[at * STATES_MOST + from] = cost;
                        better = true;
                    }
                }
            }
            return better;
        }

        private void goCheapestWay() {
            place = 0;
            state = 0;
            made.size = 0;
            // each turn goes a place on or lowers what is left of the cost
            for (int turn = 0; turn <= 2 * ROW_MOST && place < hand.size; turn++) {
                goOneOn(costFrom(place, state));
            }
        }

        private void goOneOn(int cost) {
            if (costKeeping(place, state) == cost) {
                make(hand.at(place));
                place++;
                return;
            }
            if (1 + costFrom(place + 1, state) == cost) {
                place++;
                return;
            }
            for (int call = 0; call < CALLS; call++) {
                if (costPutting(place, state, call) == cost) {
                    make(call);
                    return;
                }
            }
        }

        private void make(int call) {
            made.append(call);
            state = law.after(state, call);
        }
    }

    /** HABITS of the RIGHT ROWS that are there, whole as they were told. */
    private static final class Habits {
        final Book book;
        final int[] have = new int[CALLS];
        final int[] holds = new int[CALLS * CALLS];
        final int[] lastPlace = new int[CALLS];

        Habits(Book rows) {
            book = rows;
        }

        int having(int x) {
            return isCall(x) ? have[x] : 0;
        }

        int holding(int x, int y) {
            return isCall(x) && isCall(y) ? holds[x * CALLS + y] : 0;
        }

        void survey() {
            Arrays.fill(have, 0);
            Arrays.fill(holds, 0);
            for (int row = 0; row < book.told; row++) {
                if (book.isRightThere(row)) {
                    findLastPlaces(row);
                    addRow();
                }
            }
        }

        private void findLastPlaces(int row) {
            Arrays.fill(lastPlace, NONE);
            int size = book.sizeOf(row);
            for (int i = 0; i < size; i++) {
                int call = book.callAt(row, i);
                if (isCall(call)) {
                    lastPlace[call] = i;
                }
            }
        }

        /** Behind each x comes a y just if the last y comes behind the last x. */
        private void addRow() {
            for (int x = 0; x < CALLS; x++) {
                if (lastPlace[x] == NONE) {
                    continue;
                }
                have[x]++;
                for (int y = 0; y < CALLS; y++) {
                    holds[x * CALLS + y] += lastPlace[y] > lastPlace[x] ? 1 : 0;
                }
            }
        }

        /** x * CALLS + y; NONE: there are not so many. */
        int atRank(int k) {
            if (k < 0 || k >= CALLS * CALLS) {
                return NONE;
            }
            for (int habit = 0; habit < CALLS * CALLS; habit++) {
                if (isRanked(habit) && countAhead(habit) == k) {
                    return habit;
                }
            }
            return NONE;
        }

        private boolean isRanked(int habit) {
            return habit / CALLS != habit % CALLS && having(habit / CALLS) > 0;
        }

        private int countAhead(int habit) {
            int sum = 0;
            for (int other = 0; other < CALLS * CALLS; other++) {
                sum += isRanked(other) && isAhead(other, habit) ? 1 : 0;
            }
            return sum;
        }

        private boolean isAhead(int one, int other) {
            int oneHave = having(one / CALLS);
            int otherHave = having(other / CALLS);
            int oneShare = holding(one / CALLS, one % CALLS) * otherHave;
            int otherShare = holding(other / CALLS, other % CALLS) * oneHave;
            if (oneShare != otherShare) {
                return oneShare > otherShare;
            }
            return oneHave != otherHave ? oneHave > otherHave : one < other;
        }
    }
}
