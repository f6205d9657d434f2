import java.util.ArrayList;
import java.util.Arrays;
import java.util.List;
import java.util.regex.Matcher;
import java.util.regex.Pattern;

/** The document written a second time, slow and with the library, to be held against the class. */
final class PlainModel {
    static final int NONE = -1;

    record Seat(int row, int number) { }

    record Test(boolean not, String fact, char sign, int number) { }

    record Line(List<Test> tests, int percent) { }

    static final class Ask {
        int size, most, marks, paid, refunds;
        boolean parted;
        List<Seat> seats = new ArrayList<>();

        Ask copy() {
            Ask a = new Ask();
            a.size = size;
            a.most = most;
            a.marks = marks;
            a.paid = paid;
            a.refunds = refunds;
            a.parted = parted;
            a.seats = new ArrayList<>(seats);
            return a;
        }
    }

    private List<int[]> rows = new ArrayList<>();
    private List<Ask> asks = new ArrayList<>();
    private List<Integer> line = new ArrayList<>();
    private List<Seat> opened = new ArrayList<>();
    private List<Line> terms = new ArrayList<>();
    private String tape = "";
    private boolean seated = false;
    private int days = 30, fault = 0, faultPlace = NONE;
    private final PlainModel[] images = new PlainModel[3];

    int row(int seats, int price) {
        if (seated || rows.size() == 6 || seats < 1 || seats > 12 || price < 1 || price > 999) return NONE;
        rows.add(new int[] {seats, price});
        return rows.size() - 1;
    }

    int ask(int size, int most, int marks, boolean parted) {
        if (seated || asks.size() == 12 || size < 1 || size > 6 || most < 0 || most > 999
            || marks < 0 || marks > 999) return NONE;
        Ask a = new Ask();
        a.size = size;
        a.most = most;
        a.marks = marks;
        a.parted = parted;
        asks.add(a);
        return asks.size() - 1;
    }

    private static boolean[][] emptyHall(List<int[]> rows) {
        boolean[][] taken = new boolean[rows.size()][];
        for (int r = 0; r < rows.size(); r++) taken[r] = new boolean[rows.get(r)[0]];
        return taken;
    }

    private boolean[][] hall() {
        boolean[][] taken = emptyHall(rows);
        for (Ask a : asks) for (Seat s : a.seats) taken[s.row][s.number] = true;
        return taken;
    }

    private static int holes(boolean[] taken) {
        int holes = 0;
        for (int s = 0; s < taken.length; s++) {
            boolean left = s > 0 && !taken[s - 1];
            boolean right = s + 1 < taken.length && !taken[s + 1];
            if (!taken[s] && !left && !right) holes++;
        }
        return holes;
    }

    /** Every block is weighed: {more holes, price, row, seat}, the least of them is the one. */
    private Seat theBlock(boolean[][] taken, int size, int most) {
        List<int[]> all = new ArrayList<>();
        for (int r = 0; r < taken.length; r++) {
            if (rows.get(r)[1] > most) continue;
            for (int s = 0; s + size <= taken[r].length; s++) {
                boolean free = true;
                for (int k = s; k < s + size; k++) free &= !taken[r][k];
                if (!free) continue;
                boolean[] then = taken[r].clone();
                Arrays.fill(then, s, s + size, true);
                all.add(new int[] {holes(then) - holes(taken[r]), rows.get(r)[1], r, s});
            }
        }
        if (all.isEmpty()) return null;
        all.sort(Arrays::compare);
        return new Seat(all.get(0)[2], all.get(0)[3]);
    }

    private List<Seat> turnOf(boolean[][] taken, Ask a) {
        List<Seat> got = new ArrayList<>();
        Seat block = theBlock(taken, a.size, a.most);
        int free = 0;
        for (int r = 0; r < taken.length; r++) {
            for (boolean t : taken[r]) if (!t && rows.get(r)[1] <= a.most) free++;
        }
        if (block != null) {
            for (int k = 0; k < a.size; k++) got.add(new Seat(block.row, block.number + k));
        } else if (a.parted && free >= a.size) {
            for (int k = 0; k < a.size; k++) {
                Seat one = theBlock(taken, 1, a.most);
                taken[one.row][one.number] = true;
                got.add(one);
            }
        }
        for (Seat s : got) taken[s.row][s.number] = true;
        return got;
    }

    private static long factorial(int n) {
        return n < 2 ? 1 : n * factorial(n - 1);
    }

    private List<Integer> order(int way, int t) {
        int n = asks.size();
        if (way < 0 || way > 2 || n == 0 || way == 0 && (t < 0 || t >= factorial(n))) return null;
        List<Integer> others = new ArrayList<>();
        for (int a = 0; a < n; a++) others.add(a);
        if (way == 2) others.sort((a, b) -> asks.get(b).most - asks.get(a).most);
        if (way != 0) return others;
        List<Integer> drawn = new ArrayList<>();
        long rest = t;
        while (!others.isEmpty()) {
            long each = factorial(others.size() - 1);
            drawn.add(others.remove((int) (rest / each)));
            rest %= each;
        }
        return drawn;
    }

    int seat(int way, int t) {
        List<Integer> order = order(way, t);
        if (seated || order == null) return NONE;
        seated = true;
        line = new ArrayList<>(order);
        return callLine();
    }

    private int callLine() {
        List<Integer> left = new ArrayList<>();
        for (int a : line) {
            Ask ask = asks.get(a);
            List<Seat> got = turnOf(hall(), ask);
            for (Seat s : got) ask.paid += rows.get(s.row)[1];
            if (got.isEmpty()) left.add(a);
            else ask.seats = got;
        }
        int sat = line.size() - left.size();
        line = left;
        return sat;
    }

    void clear() {
        seated = false;
        line.clear();
        opened.clear();
        days = 30;
        for (Ask a : asks) {
            a.paid = 0;
            a.refunds = 0;
            a.seats = new ArrayList<>();
        }
    }

    int would(int way, int t) {
        List<Integer> order = order(way, t);
        if (order == null) return NONE;
        boolean[][] taken = emptyHall(rows);
        int sit = 0;
        for (int a : order) if (!turnOf(taken, asks.get(a)).isEmpty()) sit++;
        return sit;
    }

    int share(int ask) {
        if (ask < 0 || ask >= asks.size() || asks.size() > 6) return NONE;
        int share = 0;
        for (int t = 0; t < factorial(asks.size()); t++) {
            boolean[][] taken = emptyHall(rows);
            for (int a : order(0, t)) {
                boolean sits = !turnOf(taken, asks.get(a)).isEmpty();
                if (a == ask && sits) share++;
                if (a == ask) break;
            }
        }
        return share;
    }

    int turn(int t, int place) {
        List<Integer> order = order(0, t);
        return order == null || place < 0 || place >= order.size() ? NONE : order.get(place);
    }

    boolean alike(int a, int b) {
        if (a == b || a < 0 || b < 0 || a >= asks.size() || b >= asks.size()) return false;
        String one = String.format("%03d", asks.get(a).marks), two = String.format("%03d", asks.get(b).marks);
        int same = 0;
        for (int k = 0; k < 3; k++) if (one.charAt(k) == two.charAt(k)) same++;
        return same > 1;
    }

    int heap(int ask) {
        if (ask < 0 || ask >= asks.size()) return NONE;
        List<Integer> reached = new ArrayList<>(List.of(ask));
        for (int i = 0; i < reached.size(); i++) {
            for (int b = 0; b < asks.size(); b++) {
                if (!reached.contains(b) && alike(reached.get(i), b)) reached.add(b);
            }
        }
        return reached.stream().min(Integer::compare).get();
    }

    boolean days(int left) {
        if (left < 0 || left > 99 || left > days) return false;
        days = left;
        return true;
    }

    int feed(int... numbers) {
        if (tape.length() + 20 > 300) return NONE;
        for (int n : numbers) {
            for (byte b : java.nio.ByteBuffer.allocate(4).putInt(n).array()) tape += (char) (b & 255);
        }
        return tape.length();
    }

    int end(int n) {
        if (n < 0 || n > tape.length()) return NONE;
        tape = tape.substring(0, n);
        return n;
    }

    private static final Pattern TOKEN = Pattern.compile("[a-z]+|[0-9]+|[^a-z0-9 \n]");
    private static final Pattern TEXT =
        Pattern.compile("((i!?f[<>=]d(&!?f[<>=]d)*:)?(pd|w|o);)*");

    /** Each token is told by one sign, so that a text is a match of TEXT. */
    private static char sort(String token) {
        switch (token) {
            case "if": return 'i';
            case "not": return '!';
            case "and": return '&';
            case "part": return 'p';
            case "whole": return 'w';
            case "none": return 'o';
            case "days": case "price": case "size": case "row": case "back": return 'f';
            case ":": case ";": case "<": case ">": case "=": return token.charAt(0);
            default: return token.matches("[0-9]{1,3}") ? 'd' : '?';
        }
    }

    int terms() {
        List<String> tokens = new ArrayList<>();
        List<Integer> places = new ArrayList<>();
        Matcher cut = TOKEN.matcher(tape);
        while (cut.find()) {
            tokens.add(cut.group());
            places.add(cut.start());
        }
        places.add(tape.length());
        tape = "";
        fault = 0;
        faultPlace = NONE;
        String sorts = "";
        for (int k = 0; k < tokens.size() && fault == 0; k++) {
            sorts += sort(tokens.get(k));
            Matcher m = TEXT.matcher(sorts);
            if (!m.matches() && !m.hitEnd()) fault(1, places.get(k));
        }
        if (fault == 0 && !TEXT.matcher(sorts).matches()) fault(1, places.get(tokens.size()));
        if (fault == 0) findLimits(tokens, places, sorts);
        if (fault != 0) return NONE;
        terms = linesOf(tokens);
        return terms.size();
    }

    private void fault(int kind, int place) {
        fault = kind;
        faultPlace = place;
    }

    private void findLimits(List<String> tokens, List<Integer> places, String sorts) {
        int lines = 0, tests = 0;
        for (int k = 0; k < tokens.size() && fault == 0; k++) {
            char before = k == 0 ? ';' : sorts.charAt(k - 1);
            if (before == ';') {
                lines++;
                tests = 0;
            }
            if (before == 'i' || before == '&') tests++;
            boolean first = before == ';' || before == 'i' || before == '&';
            if (before == 'p' && Integer.parseInt(tokens.get(k)) > 100) fault(2, places.get(k));
            else if (first && (lines > 12 || tests > 4)) fault(3, places.get(k));
        }
    }

    private static List<Line> linesOf(List<String> tokens) {
        List<Line> lines = new ArrayList<>();
        List<Test> tests = new ArrayList<>();
        boolean not = false;
        for (int k = 0; k < tokens.size(); k++) {
            String token = tokens.get(k);
            char sort = sort(token);
            if (sort == '!') not = true;
            if (sort == 'f') {
                tests.add(new Test(not, token, tokens.get(k + 1).charAt(0), Integer.parseInt(tokens.get(k + 2))));
                not = false;
            }
            if (sort == 'p' || sort == 'w' || sort == 'o') {
                int percent = sort == 'w' ? 100 : sort == 'o' ? 0 : Integer.parseInt(tokens.get(k + 1));
                lines.add(new Line(List.copyOf(tests), percent));
                tests.clear();
            }
        }
        return lines;
    }

    int fault(int what) {
        return what == 0 ? fault : what == 1 ? faultPlace : NONE;
    }

    private int percent(Ask a, Seat s, int back) {
        for (Line l : terms) {
            boolean all = true;
            for (Test t : l.tests) {
                int value = switch (t.fact) {
                    case "days" -> days;
                    case "price" -> rows.get(s.row)[1];
                    case "size" -> a.size;
                    case "row" -> s.row;
                    default -> back;
                };
                char is = value < t.number ? '<' : value > t.number ? '>' : '=';
                all &= (is == t.sign) ^ t.not;
            }
            if (all) return l.percent;
        }
        return 100;
    }

    int back(int ask, int n) {
        if (ask < 0 || ask >= asks.size() || n < 1) return NONE;
        Ask a = asks.get(ask);
        if (n > a.seats.size()) return NONE;
        List<Seat> given = a.seats.subList(a.seats.size() - n, a.seats.size());
        for (Seat s : given) if (opened.contains(s)) return NONE;
        for (Seat s : given) a.refunds += rows.get(s.row)[1] * percent(a, s, n) / 100;
        given.clear();
        return callLine();
    }

    boolean door(int row, int seat) {
        Seat s = new Seat(row, seat);
        if (days != 0 || at(row, seat) == NONE || opened.contains(s)) return false;
        return opened.add(s);
    }

    int at(int row, int seat) {
        for (int a = 0; a < asks.size(); a++) if (asks.get(a).seats.contains(new Seat(row, seat))) return a;
        return NONE;
    }

    int tell(int ask, int what) {
        if (ask < 0 || ask >= asks.size()) return NONE;
        Ask a = asks.get(ask);
        return switch (what) {
            case 0 -> a.size;
            case 1 -> a.most;
            case 2 -> a.marks;
            case 3 -> a.parted ? 1 : 0;
            case 4 -> a.seats.size();
            case 5 -> a.paid;
            case 6 -> a.refunds;
            case 7 -> line.indexOf(ask);
            default -> NONE;
        };
    }

    int seats(int ask, int k) {
        if (ask < 0 || ask >= asks.size() || k < 0 || k >= asks.get(ask).seats.size()) return NONE;
        return asks.get(ask).seats.get(k).row * 100 + asks.get(ask).seats.get(k).number;
    }

    private static int free(boolean[] taken) {
        int free = 0;
        for (boolean t : taken) if (!t) free++;
        return free;
    }

    int about(int row, int what) {
        if (row < 0 || row >= rows.size()) return NONE;
        return switch (what) {
            case 0 -> rows.get(row)[0];
            case 1 -> rows.get(row)[1];
            case 2 -> free(hall()[row]);
            case 3 -> holes(hall()[row]);
            default -> NONE;
        };
    }

    int count(int what) {
        return switch (what) {
            case 0 -> rows.size();
            case 1 -> asks.size();
            case 2 -> (int) asks.stream().filter(a -> !a.seats.isEmpty()).count();
            case 3 -> line.size();
            case 4 -> Arrays.stream(hall()).mapToInt(PlainModel::free).sum();
            case 5 -> Arrays.stream(hall()).mapToInt(PlainModel::holes).sum();
            case 6 -> asks.stream().mapToInt(a -> a.paid - a.refunds).sum();
            case 7 -> terms.size();
            case 8 -> days;
            case 9 -> opened.size();
            case 10 -> seated ? 1 : 0;
            default -> NONE;
        };
    }

    private void takeAllOf(PlainModel other) {
        rows = new ArrayList<>(other.rows);
        asks = new ArrayList<>();
        for (Ask a : other.asks) asks.add(a.copy());
        line = new ArrayList<>(other.line);
        opened = new ArrayList<>(other.opened);
        terms = other.terms;
        tape = other.tape;
        seated = other.seated;
        days = other.days;
        fault = other.fault;
        faultPlace = other.faultPlace;
    }

    boolean image(int k) {
        if (k < 0 || k > 2) return false;
        images[k] = new PlainModel();
        images[k].takeAllOf(this);
        return true;
    }

    boolean again(int k) {
        if (k < 0 || k > 2 || images[k] == null) return false;
        takeAllOf(images[k]);
        return true;
    }
}
