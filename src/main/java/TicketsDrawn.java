/** Seats that more ask for than there are; the document's promises 1 to 24. */
public final class TicketsDrawn {
    public static final int NONE = -1;

    private static final int MOST_ROWS = 6;
    private static final int MOST_SEATS = 12;
    private static final int MOST_ASKS = 12;
    private static final int MOST_SIZE = 6;
    private static final int MOST_MONEY = 999;
    private static final int MOST_MARKS = 999;
    private static final int MOST_SHARING = 6;
    private static final int MOST_BYTES = 300;
    private static final int MOST_LINES = 12;
    private static final int MOST_TESTS = 4;
    private static final int MOST_PERCENT = 100;
    private static final int MOST_DIGITS = 3;
    private static final int MOST_IMAGES = 3;
    private static final int FIRST_DAYS = 30;

    /** A seat is told as this times its row, and its number. */
    private static final int ROW_STEP = 100;

    private static final int[] FACTORIALS = {
        1, 1, 2, 6, 24, 120, 720, 5040, 40320, 362880, 3628800, 39916800, 479001600
    };

    private final State now;
    private final State[] images;
    private final boolean[] kept;
    private final Order order;
    private final Trial trial;
    private final Reader reader;

    public TicketsDrawn() {
        now = new State();
        images = new State[MOST_IMAGES];
        for (int k = 0; k < MOST_IMAGES; k++) {
            images[k] = new State();
        }
        kept = new boolean[MOST_IMAGES];
        order = new Order();
        trial = new Trial();
        reader = new Reader();
    }

    public int row(int seats, int price) {
        boolean fine = seats >= 1 && seats <= MOST_SEATS && price >= 1 && price <= MOST_MONEY;
        if (!fine || now.hall.seated || now.rows.count >= MOST_ROWS) {
            return NONE;
        }
        trial.sharesKnown = false;
        int number = now.rows.add(seats, price);
        now.hall.free[number] = now.rows.allOf(number);
        return number;
    }

    public int ask(int size, int most, int marks, boolean parted) {
        boolean fine = size >= 1 && size <= MOST_SIZE && most >= 0 && most <= MOST_MONEY
            && marks >= 0 && marks <= MOST_MARKS;
        if (!fine || now.hall.seated || now.asks.count >= MOST_ASKS) {
            return NONE;
        }
        trial.sharesKnown = false;
        return now.asks.add(size, most, marks, parted);
    }

    public int seat(int way, int t) {
        if (now.hall.seated || !order.arrange(now.asks, way, t)) {
            return NONE;
        }
        return now.hall.seatAll(now.rows, now.asks, order.asks);
    }

    public void clear() {
        now.hall.emptyOut(now.rows);
    }

    public int would(int way, int t) {
        if (!order.arrange(now.asks, way, t)) {
            return NONE;
        }
        return trial.howManySit(now.rows, now.asks, order.asks);
    }

    public int share(int ask) {
        if (!now.asks.has(ask) || now.asks.count > MOST_SHARING) {
            return NONE;
        }
        if (!trial.sharesKnown) {
            trial.findShares(now.rows, now.asks);
        }
        return trial.shares[ask];
    }

    public int turn(int t, int place) {
        if (!now.asks.has(place) || !order.arrange(now.asks, Order.DRAWN, t)) {
            return NONE;
        }
        return order.asks[place];
    }

    public int heap(int ask) {
        return now.asks.has(ask) ? now.asks.leastOfHeap(ask) : NONE;
    }

    public boolean alike(int a, int b) {
        return a != b && now.asks.has(a) && now.asks.has(b) && now.asks.areAlike(a, b);
    }

    public boolean days(int left) {
        if (left < 0 || left > now.hall.daysLeft) {
            return false;
        }
        now.hall.daysLeft = left;
        return true;
    }

    public int feed(int a, int b, int c, int d, int e) {
        if (!now.tape.hasRoom()) {
            return NONE;
        }
        now.tape.addNumber(a);
        now.tape.addNumber(b);
        now.tape.addNumber(c);
        now.tape.addNumber(d);
        now.tape.addNumber(e);
        return now.tape.length;
    }

    public int end(int n) {
        if (n < 0 || n > now.tape.length) {
            return NONE;
        }
        now.tape.length = n;
        return n;
    }

    public int terms() {
        boolean fine = reader.readAll(now.tape);
        now.faultKind = reader.faultKind;
        now.faultPlace = reader.faultPlace;
        now.tape.length = 0;
        if (!fine) {
            return NONE;
        }
        now.rules.copyFrom(reader.draft);
        return now.rules.lines;
    }

    public int fault(int what) {
        switch (what) {
            case 0: return now.faultKind;
            case 1: return now.faultPlace;
            default: return NONE;
        }
    }

    public int back(int ask, int n) {
        if (!now.asks.has(ask) || n < 1 || n > now.hall.mayGive(ask)) {
            return NONE;
        }
        now.hall.giveBack(now, ask, n);
        return now.hall.callLine(now.rows, now.asks);
    }

    public boolean door(int row, int seat) {
        return now.hall.daysLeft == 0 && at(row, seat) != NONE && now.hall.openDoor(row, seat);
    }

    public int at(int row, int seat) {
        if (!now.rows.has(row) || seat < 0 || seat >= now.rows.seats[row]) {
            return NONE;
        }
        return now.hall.holderOf(now.asks, row * ROW_STEP + seat);
    }

    public int tell(int ask, int what) {
        if (!now.asks.has(ask)) {
            return NONE;
        }
        switch (what) {
            case 0: return now.asks.size[ask];
            case 1: return now.asks.most[ask];
            case 2: return now.asks.marks[ask];
            case 3: return now.asks.parted[ask] ? 1 : 0;
            case 4: return now.hall.held[ask];
            case 5: return now.hall.paid[ask];
            case 6: return now.hall.refunds[ask];
            case 7: return now.hall.placeInLine(ask);
            default: return NONE;
        }
    }

    public int seats(int ask, int k) {
        if (!now.asks.has(ask) || k < 0 || k >= now.hall.held[ask]) {
            return NONE;
        }
        return now.hall.took[ask][k];
    }

    public int about(int row, int what) {
        if (!now.rows.has(row)) {
            return NONE;
        }
        switch (what) {
            case 0: return now.rows.seats[row];
            case 1: return now.rows.price[row];
            case 2: return Integer.bitCount(now.hall.free[row]);
            case 3: return Rows.holesIn(now.hall.free[row]);
            default: return NONE;
        }
    }

    public int count(int what) {
        switch (what) {
            case 0: return now.rows.count;
            case 1: return now.asks.count;
            case 2: return now.hall.howManySit(now.asks);
            case 3: return now.hall.inLine;
            case 4: return now.hall.freeSeats(now.rows);
            case 5: return now.hall.holes(now.rows);
            case 6: return now.hall.money(now.asks);
            case 7: return now.rules.lines;
            case 8: return now.hall.daysLeft;
            case 9: return now.hall.openDoors(now.rows);
            case 10: return now.hall.seated ? 1 : 0;
            default: return NONE;
        }
    }

    public boolean image(int k) {
        if (k < 0 || k >= MOST_IMAGES) {
            return false;
        }
        images[k].copyFrom(now);
        kept[k] = true;
        return true;
    }

    public boolean again(int k) {
        if (k < 0 || k >= MOST_IMAGES || !kept[k]) {
            return false;
        }
        now.copyFrom(images[k]);
        trial.sharesKnown = false;
        return true;
    }

    /** All that an image keeps. */
    private static final class State {
        final Rows rows = new Rows();
        final Asks asks = new Asks();
        final Hall hall = new Hall();
        final Rules rules = new Rules();
        final Tape tape = new Tape();
        int faultKind = 0;
        int faultPlace = NONE;

        void copyFrom(State other) {
            rows.copyFrom(other.rows);
            asks.copyFrom(other.asks);
            hall.copyFrom(other.hall);
            rules.copyFrom(other.rules);
            tape.copyFrom(other.tape);
            faultKind = other.faultKind;
            faultPlace = other.faultPlace;
        }
    }

    /** The rows, and how a turn picks seats in them; free seats are bits, one number a row. */
    private static final class Rows {
        int count = 0;
        final int[] seats = new int[MOST_ROWS];
        final int[] price = new int[MOST_ROWS];

        void copyFrom(Rows other) {
            count = other.count;
            System.arraycopy(other.seats, 0, seats, 0, MOST_ROWS);
            System.arraycopy(other.price, 0, price, 0, MOST_ROWS);
        }

        boolean has(int row) {
            return row >= 0 && row < count;
        }

        int add(int seatsOfIt, int priceOfIt) {
            seats[count] = seatsOfIt;
            price[count] = priceOfIt;
            count++;
            return count - 1;
        }

        int allOf(int row) {
            return (1 << seats[row]) - 1;
        }

        void freeAll(int[] free) {
            for (int r = 0; r < count; r++) {
                free[r] = allOf(r);
            }
        }

        static int holesIn(int free) {
            return Integer.bitCount(free & ~(free << 1) & ~(free >> 1));
        }

        private static int bitsOf(int first, int size) {
            return ((1 << size) - 1) << first;
        }

        /** The first seats of all blocks in a row, as bits. */
        private static int startsIn(int free, int size) {
            int starts = free;
            for (int k = 1; k < size; k++) {
                starts &= free >> k;
            }
            return starts;
        }

        /** Of the blocks with these starts the best: 100 times (its holes more + 1), and its start. */
        private static int bestStart(int free, int size, int starts) {
            // A free seat beside the block is left alone if the one behind it is not free.
            int leavesLeft = free << 1 & ~(free << 2);
            int leavesRight = free >> size & ~(free >> size + 1);
            int leavesNone = starts & ~leavesLeft & ~leavesRight;
            int fillsHole = size == 1 ? starts & ~(free << 1) & ~(free >> 1) : 0;
            if (fillsHole != 0) {
                return Integer.numberOfTrailingZeros(fillsHole);
            }
            if (leavesNone != 0) {
                return ROW_STEP + Integer.numberOfTrailingZeros(leavesNone);
            }
            // Where two seats or more were left over, a block at the edge would leave no hole:
            // so just one is left over here, and every block leaves that one.
            return 2 * ROW_STEP + Integer.numberOfTrailingZeros(starts);
        }

        private int bestBlock(int[] free, int size, int most) {
            int bestRow = NONE;
            int bestFirst = NONE;
            int fewest = 0;
            for (int r = 0; r < count; r++) {
                int starts = price[r] <= most ? startsIn(free[r], size) : 0;
                if (starts != 0) {
                    int found = bestStart(free[r], size, starts);
                    int holes = found / ROW_STEP;
                    if (bestRow == NONE || holes < fewest
                        || (holes == fewest && price[r] < price[bestRow])) {
                        bestRow = r;
                        bestFirst = found % ROW_STEP;
                        fewest = holes;
                    }
                }
            }
            return bestRow == NONE ? NONE : bestRow * ROW_STEP + bestFirst;
        }

        private int freeUpTo(int[] free, int most) {
            int sum = 0;
            for (int r = 0; r < count; r++) {
                if (price[r] <= most) {
                    sum += Integer.bitCount(free[r]);
                }
            }
            return sum;
        }

        /** Answers how many seats the ask takes: its size, or 0. */
        int takeTurn(int[] free, Asks asks, int ask, int[] taken) {
            int size = asks.size[ask];
            int most = asks.most[ask];
            int block = bestBlock(free, size, most);
            if (block != NONE) {
                takeBlock(free, block, size, taken, 0);
                return size;
            }
            if (!asks.parted[ask] || freeUpTo(free, most) < size) {
                return 0;
            }
            for (int k = 0; k < size; k++) {
                takeBlock(free, bestBlock(free, 1, most), 1, taken, k);
            }
            return size;
        }

        private static void takeBlock(int[] free, int block, int size, int[] taken, int from) {
            if (block == NONE) {
                return;
            }
            free[block / ROW_STEP] &= ~bitsOf(block % ROW_STEP, size);
            for (int k = 0; k < size; k++) {
                taken[from + k] = block + k;
            }
        }
    }

    private static final class Asks {
        int count = 0;
        final int[] size = new int[MOST_ASKS];
        final int[] most = new int[MOST_ASKS];
        final int[] marks = new int[MOST_ASKS];
        final boolean[] parted = new boolean[MOST_ASKS];

        void copyFrom(Asks other) {
            count = other.count;
            System.arraycopy(other.size, 0, size, 0, MOST_ASKS);
            System.arraycopy(other.most, 0, most, 0, MOST_ASKS);
            System.arraycopy(other.marks, 0, marks, 0, MOST_ASKS);
            System.arraycopy(other.parted, 0, parted, 0, MOST_ASKS);
        }

        boolean has(int ask) {
            return ask >= 0 && ask < count;
        }

        int add(int sizeOfIt, int mostOfIt, int marksOfIt, boolean mayPart) {
            size[count] = sizeOfIt;
            most[count] = mostOfIt;
            marks[count] = marksOfIt;
            parted[count] = mayPart;
            count++;
            return count - 1;
        }

        boolean areAlike(int a, int b) {
            int same = 0;
            for (int step = 1; step <= 100; step *= 10) {
                if (marks[a] / step % 10 == marks[b] / step % 10) {
                    same++;
                }
            }
            return same >= 2;
        }

        int leastOfHeap(int ask) {
            int reached = 1 << ask;
            // Each round reaches one more at least, or none ever again.
            for (int round = 0; round < count; round++) {
                reached = reachOut(reached);
            }
            return Integer.numberOfTrailingZeros(reached);
        }

        private int reachOut(int reached) {
            int more = reached;
            for (int a = 0; a < count; a++) {
                for (int b = 0; b < count; b++) {
                    if ((more >> a & 1) == 1 && areAlike(a, b)) {
                        more |= 1 << b;
                    }
                }
            }
            return more;
        }
    }

    /** In which order the asks have their turns. */
    private static final class Order {
        static final int DRAWN = 0;
        static final int FIRST_COME = 1;
        static final int PAYS_MOST = 2;

        final int[] asks = new int[MOST_ASKS];

        /** False, where there are no asks, no such way, or no such number of turns. */
        boolean arrange(Asks all, int way, int t) {
            boolean isWay = way == DRAWN || way == FIRST_COME || way == PAYS_MOST;
            if (all.count < 1 || !isWay) {
                return false;
            }
            if (way == DRAWN && (t < 0 || t >= FACTORIALS[all.count])) {
                return false;
            }
            for (int a = 0; a < all.count; a++) {
                asks[a] = a;
            }
            if (way == DRAWN) {
                draw(all.count, t);
            } else if (way == PAYS_MOST) {
                sortByMost(all);
            }
            return true;
        }

        private void draw(int n, int t) {
            int rest = t;
            for (int place = 0; place < n; place++) {
                int each = FACTORIALS[n - 1 - place];
                moveDown(place + rest / each, place);
                rest %= each;
            }
        }

        private void sortByMost(Asks all) {
            for (int a = 1; a < all.count; a++) {
                int place = a;
                while (place > 0 && all.most[asks[place - 1]] < all.most[a]) {
                    place--;
                }
                moveDown(a, place);
            }
        }

        private void moveDown(int from, int to) {
            int moved = asks[from];
            for (int place = from; place > to; place--) {
                asks[place] = asks[place - 1];
            }
            asks[to] = moved;
        }
    }

    /** Seats asks in an empty hall that nobody sees. */
    private static final class Trial {
        boolean sharesKnown = false;
        final int[] shares = new int[MOST_SHARING];
        private final int[] taken = new int[MOST_SIZE];
        /** What is free before each place of the turns, so that turns with one beginning share it. */
        private final int[][] free = new int[MOST_SHARING + 1][MOST_ROWS];

        int howManySit(Rows rows, Asks asks, int[] order) {
            rows.freeAll(free[0]);
            int sitting = 0;
            for (int place = 0; place < asks.count; place++) {
                if (rows.takeTurn(free[0], asks, order[place], taken) > 0) {
                    sitting++;
                }
            }
            return sitting;
        }

        void findShares(Rows rows, Asks asks) {
            for (int a = 0; a < MOST_SHARING; a++) {
                shares[a] = 0;
            }
            rows.freeAll(free[0]);
            goOn(this, rows, asks, 0, 0);
            sharesKnown = true;
        }

        private static void goOn(Trial trial, Rows rows, Asks asks, int place, int had) {
            if (place >= asks.count || place >= MOST_SHARING) {
                return;
            }
            int[] free = trial.free[place + 1];
            int ordersOfRest = FACTORIALS[asks.count - 1 - place];
            for (int a = 0; a < asks.count; a++) {
                if ((had >> a & 1) == 0) {
                    System.arraycopy(trial.free[place], 0, free, 0, MOST_ROWS);
                    if (rows.takeTurn(free, asks, a, trial.taken) > 0) {
                        trial.shares[a] += ordersOfRest;
                    }
                    goOn(trial, rows, asks, place + 1, had | 1 << a);
                }
            }
        }
    }

    /** Who sits where, who waits, and what was paid. */
    private static final class Hall {
        boolean seated = false;
        int daysLeft = FIRST_DAYS;
        int inLine = 0;
        final int[] line = new int[MOST_ASKS];
        final int[] free = new int[MOST_ROWS];
        final int[] opened = new int[MOST_ROWS];
        final int[] held = new int[MOST_ASKS];
        final int[] paid = new int[MOST_ASKS];
        final int[] refunds = new int[MOST_ASKS];
        final int[][] took = new int[MOST_ASKS][MOST_SIZE];

        void copyFrom(Hall other) {
            seated = other.seated;
            daysLeft = other.daysLeft;
            inLine = other.inLine;
            System.arraycopy(other.line, 0, line, 0, MOST_ASKS);
            System.arraycopy(other.free, 0, free, 0, MOST_ROWS);
            System.arraycopy(other.opened, 0, opened, 0, MOST_ROWS);
            System.arraycopy(other.held, 0, held, 0, MOST_ASKS);
            System.arraycopy(other.paid, 0, paid, 0, MOST_ASKS);
            System.arraycopy(other.refunds, 0, refunds, 0, MOST_ASKS);
            for (int a = 0; a < MOST_ASKS; a++) {
                System.arraycopy(other.took[a], 0, took[a], 0, MOST_SIZE);
            }
        }

        void emptyOut(Rows rows) {
            seated = false;
            daysLeft = FIRST_DAYS;
            inLine = 0;
            rows.freeAll(free);
            // A door opens for one who sits: with nobody seated none has opened.
            for (int r = 0; r < MOST_ROWS; r++) {
                opened[r] = 0;
            }
            for (int a = 0; a < MOST_ASKS; a++) {
                held[a] = 0;
                paid[a] = 0;
                refunds[a] = 0;
            }
        }

        int seatAll(Rows rows, Asks asks, int[] order) {
            seated = true;
            int sitting = 0;
            for (int place = 0; place < asks.count; place++) {
                if (sitsDown(rows, asks, order[place])) {
                    sitting++;
                } else {
                    line[inLine] = order[place];
                    inLine++;
                }
            }
            return sitting;
        }

        private boolean sitsDown(Rows rows, Asks asks, int ask) {
            held[ask] = rows.takeTurn(free, asks, ask, took[ask]);
            for (int k = 0; k < held[ask]; k++) {
                paid[ask] += rows.price[took[ask][k] / ROW_STEP];
            }
            return held[ask] > 0;
        }

        int callLine(Rows rows, Asks asks) {
            int called = inLine;
            inLine = 0;
            for (int place = 0; place < called; place++) {
                int ask = line[place];
                if (!sitsDown(rows, asks, ask)) {
                    line[inLine] = ask;
                    inLine++;
                }
            }
            return called - inLine;
        }

        int mayGive(int ask) {
            int many = 0;
            for (int k = held[ask] - 1; k >= 0 && !hasOpened(took[ask][k]); k--) {
                many++;
            }
            return many;
        }

        private boolean hasOpened(int place) {
            return (opened[place / ROW_STEP] >> place % ROW_STEP & 1) == 1;
        }

        void giveBack(State all, int ask, int n) {
            for (int given = 0; given < n && held[ask] > 0; given++) {
                held[ask]--;
                int place = took[ask][held[ask]];
                int row = place / ROW_STEP;
                int price = all.rows.price[row];
                int percent = all.rules.percentFor(daysLeft, price, all.asks.size[ask], row, n);
                free[row] |= 1 << place % ROW_STEP;
                refunds[ask] += price * percent / 100;
            }
        }

        /** True, if it had not opened before. */
        boolean openDoor(int row, int seat) {
            if (hasOpened(row * ROW_STEP + seat)) {
                return false;
            }
            opened[row] |= 1 << seat;
            return true;
        }

        int holderOf(Asks asks, int place) {
            for (int a = 0; a < asks.count; a++) {
                for (int k = 0; k < held[a]; k++) {
                    if (took[a][k] == place) {
                        return a;
                    }
                }
            }
            return NONE;
        }

        int placeInLine(int ask) {
            for (int place = 0; place < inLine; place++) {
                if (line[place] == ask) {
                    return place;
                }
            }
            return NONE;
        }

        int howManySit(Asks asks) {
            int sitting = 0;
            for (int a = 0; a < asks.count; a++) {
                if (held[a] > 0) {
                    sitting++;
                }
            }
            return sitting;
        }

        int freeSeats(Rows rows) {
            int sum = 0;
            for (int r = 0; r < rows.count; r++) {
                sum += Integer.bitCount(free[r]);
            }
            return sum;
        }

        int holes(Rows rows) {
            int sum = 0;
            for (int r = 0; r < rows.count; r++) {
                sum += Rows.holesIn(free[r]);
            }
            return sum;
        }

        int openDoors(Rows rows) {
            int sum = 0;
            for (int r = 0; r < rows.count; r++) {
                sum += Integer.bitCount(opened[r]);
            }
            return sum;
        }

        int money(Asks asks) {
            int sum = 0;
            for (int a = 0; a < asks.count; a++) {
                sum += paid[a] - refunds[a];
            }
            return sum;
        }
    }

    /** The terms by which seats are given back. */
    private static final class Rules {
        static final int FACTS = 5;

        int lines = 0;
        final int[] percent = new int[MOST_LINES];
        final int[] tests = new int[MOST_LINES];
        private final int[] fact = new int[MOST_LINES * MOST_TESTS];
        private final int[] sign = new int[MOST_LINES * MOST_TESTS];
        private final int[] number = new int[MOST_LINES * MOST_TESTS];
        private final boolean[] negated = new boolean[MOST_LINES * MOST_TESTS];
        private final int[] known = new int[FACTS];

        void copyFrom(Rules other) {
            lines = other.lines;
            System.arraycopy(other.percent, 0, percent, 0, MOST_LINES);
            System.arraycopy(other.tests, 0, tests, 0, MOST_LINES);
            System.arraycopy(other.fact, 0, fact, 0, MOST_LINES * MOST_TESTS);
            System.arraycopy(other.sign, 0, sign, 0, MOST_LINES * MOST_TESTS);
            System.arraycopy(other.number, 0, number, 0, MOST_LINES * MOST_TESTS);
            System.arraycopy(other.negated, 0, negated, 0, MOST_LINES * MOST_TESTS);
        }

        /** A line or test too many is a fault, and is left out here. */
        void addTest(boolean not, int factOfIt, int signOfIt, int numberOfIt) {
            if (lines >= MOST_LINES || tests[lines] >= MOST_TESTS) {
                return;
            }
            int slot = lines * MOST_TESTS + tests[lines];
            negated[slot] = not;
            fact[slot] = factOfIt;
            sign[slot] = signOfIt;
            number[slot] = numberOfIt;
            tests[lines]++;
        }

        void beginLine() {
            if (lines < MOST_LINES) {
                tests[lines] = 0;
            }
        }

        void finishLine(int percentOfIt) {
            if (lines < MOST_LINES) {
                percent[lines] = percentOfIt;
                lines++;
            }
        }

        int percentFor(int days, int price, int size, int row, int back) {
            known[Tokens.DAYS - Tokens.DAYS] = days;
            known[Tokens.PRICE - Tokens.DAYS] = price;
            known[Tokens.SIZE - Tokens.DAYS] = size;
            known[Tokens.ROW - Tokens.DAYS] = row;
            known[Tokens.BACK - Tokens.DAYS] = back;
            for (int k = 0; k < lines; k++) {
                if (allHold(k)) {
                    return percent[k];
                }
            }
            return MOST_PERCENT;
        }

        private boolean allHold(int k) {
            for (int i = 0; i < tests[k]; i++) {
                int slot = k * MOST_TESTS + i;
                if (compares(known[fact[slot]], sign[slot], number[slot]) == negated[slot]) {
                    return false;
                }
            }
            return true;
        }

        private static boolean compares(int left, int by, int right) {
            switch (by) {
                case '<': return left < right;
                case '>': return left > right;
                default: return left == right;
            }
        }
    }

    private static final class Tape {
        int length = 0;
        final int[] bytes = new int[MOST_BYTES];

        void copyFrom(Tape other) {
            length = other.length;
            System.arraycopy(other.bytes, 0, bytes, 0, MOST_BYTES);
        }

        boolean hasRoom() {
            return length + 20 <= MOST_BYTES;
        }

        void addNumber(int number) {
            for (int shift = 24; shift >= 0 && length < MOST_BYTES; shift -= 8) {
                bytes[length] = number >> shift & 255;
                length++;
            }
        }
    }

    /** The tape, cut into tokens; the last one is the end. */
    private static final class Tokens {
        // A sign's kind is its byte; the five facts stand side by side.
        static final int THE_END = 0;
        static final int BAD = 1;
        static final int NUMBER = 2;
        static final int IF = 10;
        static final int AND = 11;
        static final int NOT = 12;
        static final int PART = 13;
        static final int WHOLE = 14;
        static final int NOTHING = 15;
        static final int DAYS = 20;
        static final int PRICE = 21;
        static final int SIZE = 22;
        static final int ROW = 23;
        static final int BACK = 24;

        int many = 0;
        final int[] kind = new int[MOST_BYTES + 1];
        final int[] value = new int[MOST_BYTES + 1];
        final int[] start = new int[MOST_BYTES + 1];

        void cutUp(Tape tape) {
            many = 0;
            int from = 0;
            for (int k = 0; k < MOST_BYTES && from < tape.length; k++) {
                from = isBlank(tape.bytes[from]) ? from + 1 : cutOne(tape, from);
            }
            put(THE_END, 0, tape.length);
        }

        private void put(int kindOfIt, int valueOfIt, int startOfIt) {
            if (many <= MOST_BYTES) {
                kind[many] = kindOfIt;
                value[many] = valueOfIt;
                start[many] = startOfIt;
                many++;
            }
        }

        /** Answers the place behind the token. */
        private int cutOne(Tape tape, int from) {
            int first = tape.bytes[from];
            int behind = from + 1;
            if (isLetter(first)) {
                while (behind < tape.length && isLetter(tape.bytes[behind])) {
                    behind++;
                }
                put(wordKind(tape, from, behind), 0, from);
            } else if (isDigit(first)) {
                while (behind < tape.length && isDigit(tape.bytes[behind])) {
                    behind++;
                }
                boolean isNumber = behind - from <= MOST_DIGITS;
                put(isNumber ? NUMBER : BAD, numberIn(tape, from, behind), from);
            } else {
                put(isSign(first) ? first : BAD, 0, from);
            }
            return behind;
        }

        private static int numberIn(Tape tape, int from, int behind) {
            int number = 0;
            for (int k = from; k < behind; k++) {
                number = number * 10 + tape.bytes[k] - '0';
            }
            return number;
        }

        private static int wordKind(Tape tape, int from, int behind) {
            if (spells(tape, from, behind, "if")) return IF;
            if (spells(tape, from, behind, "and")) return AND;
            if (spells(tape, from, behind, "not")) return NOT;
            if (spells(tape, from, behind, "part")) return PART;
            if (spells(tape, from, behind, "whole")) return WHOLE;
            if (spells(tape, from, behind, "none")) return NOTHING;
            if (spells(tape, from, behind, "days")) return DAYS;
            if (spells(tape, from, behind, "price")) return PRICE;
            if (spells(tape, from, behind, "size")) return SIZE;
            if (spells(tape, from, behind, "row")) return ROW;
            if (spells(tape, from, behind, "back")) return BACK;
            return BAD;
        }

        private static boolean spells(Tape tape, int from, int behind, String word) {
            if (behind - from != word.length()) {
                return false;
            }
            for (int k = 0; k < word.length(); k++) {
                if (tape.bytes[from + k] != word.charAt(k)) {
                    return false;
                }
            }
            return true;
        }

        private static boolean isBlank(int b) {
            return b == 10 || b == 32;
        }

        private static boolean isLetter(int b) {
            return b >= 'a' && b <= 'z';
        }

        private static boolean isDigit(int b) {
            return b >= '0' && b <= '9';
        }

        private static boolean isSign(int b) {
            return b == ':' || b == ';' || b == '<' || b == '>' || b == '=';
        }
    }

    /** Reads a tape as terms. */
    private static final class Reader {
        private static final int FAULT_TEXT = 1;
        private static final int FAULT_PERCENT = 2;
        private static final int FAULT_TOO_MANY = 3;

        final Rules draft = new Rules();
        int faultKind = 0;
        int faultPlace = NONE;
        private final Tokens tokens = new Tokens();
        private int next = 0;

        /** True without a fault: the draft has the terms then. */
        boolean readAll(Tape tape) {
            tokens.cutUp(tape);
            next = 0;
            faultKind = 0;
            faultPlace = NONE;
            draft.lines = 0;
            boolean goesOn = true;
            for (int k = 0; k <= MOST_BYTES && goesOn && kindNow() != Tokens.THE_END; k++) {
                goesOn = readLine(k);
            }
            return faultKind == 0;
        }

        private int kindNow() {
            return tokens.kind[next];
        }

        /** The end is never passed, so that there always is a token. */
        private void step() {
            if (next + 1 < tokens.many) {
                next++;
            }
        }

        private boolean readLine(int linesBefore) {
            if (linesBefore >= MOST_LINES) {
                remember(FAULT_TOO_MANY);
            }
            draft.beginLine();
            if (kindNow() == Tokens.IF && !readTests()) {
                return false;
            }
            int percent = readPercent();
            if (percent == NONE || !pass(';')) {
                return false;
            }
            draft.finishLine(percent);
            return true;
        }

        private boolean readTests() {
            boolean more = true;
            for (int k = 0; k <= MOST_BYTES && more; k++) {
                // Over the 'if', later over an 'and'.
                step();
                if (k >= MOST_TESTS) {
                    remember(FAULT_TOO_MANY);
                }
                if (!readTest()) {
                    return false;
                }
                more = kindNow() == Tokens.AND;
            }
            return pass(':');
        }

        private boolean readTest() {
            boolean not = kindNow() == Tokens.NOT;
            if (not) {
                step();
            }
            int fact = kindNow() - Tokens.DAYS;
            if (kindNow() < Tokens.DAYS || kindNow() > Tokens.BACK) {
                return refuse();
            }
            step();
            int sign = kindNow();
            if (sign != '<' && sign != '>' && sign != '=') {
                return refuse();
            }
            step();
            int number = tokens.value[next];
            if (!pass(Tokens.NUMBER)) {
                return false;
            }
            draft.addTest(not, fact, sign, number);
            return true;
        }

        /** NONE, where none of the three endings stands. */
        private int readPercent() {
            if (kindNow() == Tokens.WHOLE || kindNow() == Tokens.NOTHING) {
                int percent = kindNow() == Tokens.WHOLE ? MOST_PERCENT : 0;
                step();
                return percent;
            }
            if (!pass(Tokens.PART)) {
                return NONE;
            }
            int percent = tokens.value[next];
            if (kindNow() == Tokens.NUMBER && percent > MOST_PERCENT) {
                remember(FAULT_PERCENT);
            }
            return pass(Tokens.NUMBER) ? percent : NONE;
        }

        private boolean pass(int wanted) {
            if (kindNow() != wanted) {
                return refuse();
            }
            step();
            return true;
        }

        private boolean refuse() {
            // Whatever else was remembered: this fault counts before all others.
            faultKind = FAULT_TEXT;
            faultPlace = tokens.start[next];
            return false;
        }

        private void remember(int fault) {
            if (faultKind == 0) {
                faultKind = fault;
                faultPlace = tokens.start[next];
            }
        }
    }
}
