import java.util.Random;

/** Random runs of calls on the class and on the plain model: every answer, and all that is told, must be one. */
public final class AgainstModelTest {
    private static final int RUNS = 4000;
    private static final int CALLS = 120;

    private final Random random;
    private final String name;
    private final TicketsDrawn x = new TicketsDrawn();
    private final PlainModel m = new PlainModel();
    private final int hallStyle;

    private AgainstModelTest(int seed) {
        random = new Random(seed);
        name = "run " + seed;
        hallStyle = random.nextInt(3);
    }

    public static void main(String[] args) {
        for (int seed = 0; seed < RUNS && Check.wrongSoFar() < 20; seed++) {
            new AgainstModelTest(seed).run();
        }
        Check.finish("AgainstModelTest");
    }

    private void run() {
        int begun = Check.wrongSoFar();
        for (int call = 0; call < CALLS && Check.wrongSoFar() == begun; call++) {
            one(name + ", call " + call, pick());
            if (call % 8 == 7 || call == CALLS - 1) {
                compareAll(name + ", after call " + call);
            }
        }
    }

    /** Rows and asks mostly come first, as in use; what comes later needs somebody seated. */
    private int pick() {
        if (m.count(0) < 1 || m.count(1) < 2 || (m.count(10) == 0 && random.nextInt(3) > 0)) {
            return random.nextInt(20) < 7 ? 0 : random.nextInt(12) < 10 ? 1 : 2;
        }
        return random.nextInt(30);
    }

    private int low(int bound) {
        return random.nextInt(12) == 0 ? random.nextInt(bound + 4) - 2 : random.nextInt(bound);
    }

    private int odd(int usual) {
        switch (random.nextInt(40)) {
            case 0: return Integer.MIN_VALUE;
            case 1: return Integer.MAX_VALUE;
            case 2: return -1;
            case 3: return random.nextInt();
            default: return usual;
        }
    }

    private int price() {
        return hallStyle == 0 ? 10 + random.nextInt(3) : hallStyle == 1 ? low(1002) : 40 + 10 * random.nextInt(4);
    }

    private int marks() {
        return random.nextInt(20) == 0 ? low(1003) : 111 + random.nextInt(3) * 100 + random.nextInt(3) * 10
            + random.nextInt(3);
    }

    private void one(String at, int call) {
        switch (call) {
            case 0: rowCall(at); break;
            case 1: askCall(at); break;
            case 2: case 3: seatCall(at); break;
            case 4:
                if (random.nextInt(3) == 0) {
                    x.clear();
                    m.clear();
                }
                break;
            case 5: case 6: wouldCall(at); break;
            case 7: shareCall(at); break;
            case 8: turnCall(at); break;
            case 9: heapCall(at); break;
            case 10: case 11: daysCall(at); break;
            case 12: feedCall(at); break;
            case 13: endCall(at); break;
            case 14: case 15: case 16: termsCall(at); break;
            case 17: imageCall(at); break;
            case 18: againCall(at); break;
            case 19: case 20: case 21: case 22: doorCall(at); break;
            default: backCall(at); break;
        }
    }

    private void rowCall(String at) {
        int seats = odd(hallStyle == 2 ? 1 + random.nextInt(4) : low(13));
        int price = odd(price());
        Check.due(at + " row(" + seats + ", " + price + ")", m.row(seats, price), x.row(seats, price));
    }

    private void askCall(String at) {
        int size = odd(random.nextInt(10) == 0 ? low(8) : 1 + random.nextInt(hallStyle == 2 ? 4 : 6));
        int most = odd(price());
        int marks = odd(marks());
        boolean parted = random.nextBoolean();
        Check.due(at + " ask(" + size + ", " + most + ", " + marks + ", " + parted + ")",
            m.ask(size, most, marks, parted), x.ask(size, most, marks, parted));
    }

    private int number() {
        int n = m.count(1);
        int all = 1;
        for (int k = 2; k <= n; k++) {
            all *= k;
        }
        return odd(random.nextInt(10) == 0 ? all - 1 + random.nextInt(2) : random.nextInt(all));
    }

    private void seatCall(String at) {
        int way = odd(low(3));
        int t = number();
        Check.due(at + " seat(" + way + ", " + t + ")", m.seat(way, t), x.seat(way, t));
    }

    private void wouldCall(String at) {
        int way = odd(low(3));
        int t = number();
        Check.due(at + " would(" + way + ", " + t + ")", m.would(way, t), x.would(way, t));
    }

    private void shareCall(String at) {
        // The model is slow with six asks.
        if (m.count(1) == 6 && random.nextInt(4) > 0) {
            return;
        }
        int ask = odd(low(Math.max(1, m.count(1))));
        Check.due(at + " share(" + ask + ")", m.share(ask), x.share(ask));
    }

    private void turnCall(String at) {
        int t = number();
        int place = odd(low(Math.max(1, m.count(1))));
        Check.due(at + " turn(" + t + ", " + place + ")", m.turn(t, place), x.turn(t, place));
    }

    private void heapCall(String at) {
        int a = odd(low(Math.max(1, m.count(1))));
        int b = odd(low(Math.max(1, m.count(1))));
        Check.due(at + " heap(" + a + ")", m.heap(a), x.heap(a));
        Check.due(at + " alike(" + a + ", " + b + ")", m.alike(a, b), x.alike(a, b));
    }

    private void daysCall(String at) {
        int left = odd(random.nextInt(3) == 0 ? 0 : random.nextInt(36) - 2);
        Check.due(at + " days(" + left + ")", m.days(left), x.days(left));
    }

    private void feedCall(String at) {
        int[] n = new int[5];
        for (int i = 0; i < 5; i++) {
            n[i] = random.nextInt();
        }
        Check.due(at + " feed", m.feed(n), x.feed(n[0], n[1], n[2], n[3], n[4]));
    }

    private void endCall(String at) {
        int n = odd(random.nextInt(4) == 0 ? 0 : random.nextInt(310));
        Check.due(at + " end(" + n + ")", m.end(n), x.end(n));
    }

    private void termsCall(String at) {
        if (random.nextInt(5) > 0) {
            Check.due(at + " end(0)", m.end(0), x.end(0));
            putText(new RandomTerms(random).text());
        }
        if (random.nextInt(8) > 0) {
            Check.due(at + " terms", m.terms(), x.terms());
            Check.due(at + " fault", m.fault(0), x.fault(0));
            Check.due(at + " its place", m.fault(1), x.fault(1));
            int what = low(3);
            Check.due(at + " fault(" + what + ")", m.fault(what), x.fault(what));
        }
    }

    private void putText(String text) {
        String cut = text.substring(0, Math.min(text.length(), 300));
        Check.feed(x, cut, 0);
        for (int at = 0; at < cut.length(); at += 20) {
            int[] n = new int[5];
            for (int k = 0; k < 20; k++) {
                n[k / 4] = n[k / 4] << 8 | (at + k < cut.length() ? cut.charAt(at + k) : 32);
            }
            m.feed(n);
        }
        m.end(cut.length());
    }

    private void imageCall(String at) {
        int k = odd(low(3));
        Check.due(at + " image(" + k + ")", m.image(k), x.image(k));
    }

    private void againCall(String at) {
        int k = odd(low(3));
        Check.due(at + " again(" + k + ")", m.again(k), x.again(k));
    }

    private void doorCall(String at) {
        int row = odd(low(Math.max(1, m.count(0))));
        int seat = odd(low(12));
        Check.due(at + " door(" + row + ", " + seat + ")", m.door(row, seat), x.door(row, seat));
    }

    private void backCall(String at) {
        int ask = odd(low(Math.max(1, m.count(1))));
        int n = odd(random.nextInt(8) == 0 ? low(8) : 1 + random.nextInt(3));
        Check.due(at + " back(" + ask + ", " + n + ")", m.back(ask, n), x.back(ask, n));
    }

    private void compareAll(String at) {
        for (int what = -1; what <= 11; what++) {
            Check.due(at + " count(" + what + ")", m.count(what), x.count(what));
        }
        for (int row = -1; row <= 6; row++) {
            for (int what = -1; what <= 4; what++) {
                Check.due(at + " about(" + row + ", " + what + ")", m.about(row, what), x.about(row, what));
            }
            for (int seat = -1; seat <= 12; seat++) {
                Check.due(at + " at(" + row + ", " + seat + ")", m.at(row, seat), x.at(row, seat));
            }
        }
        for (int ask = -1; ask <= 12; ask++) {
            for (int what = -1; what <= 8; what++) {
                Check.due(at + " tell(" + ask + ", " + what + ")", m.tell(ask, what), x.tell(ask, what));
                Check.due(at + " seats(" + ask + ", " + what + ")", m.seats(ask, what), x.seats(ask, what));
            }
        }
        Check.due(at + " fault(0)", m.fault(0), x.fault(0));
        Check.due(at + " fault(1)", m.fault(1), x.fault(1));
    }
}
