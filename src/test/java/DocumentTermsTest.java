import java.io.IOException;
import java.lang.reflect.Method;
import java.lang.reflect.Modifier;
import java.lang.reflect.Parameter;
import java.util.ArrayList;
import java.util.List;

/** The document from its first line to its constants: each sentence quoted, and what it says tried behind it. */
public final class DocumentTermsTest extends Document {
    private static final int NONE = TicketsDrawn.NONE;

    private DocumentTermsTest() throws IOException {
        super("# TicketsDrawn", "## Promise 1: A new object");
    }

    public static void main(String[] args) throws Exception {
        DocumentTermsTest test = new DocumentTermsTest();
        test.whatItIs();
        publicFace();
        test.rowsAndAsks();
        test.holesAndBlocks();
        test.theBlock();
        test.turnOfAnAsk();
        test.turnsByNumber();
        test.ways();
        test.shares();
        test.alikesAndHeaps();
        test.seated();
        test.givenBack();
        test.tapeAndTokens();
        test.linesAndTests();
        test.whichLineTells();
        test.faults();
        test.doors();
        test.constants();
        test.allIsQuoted();
        Check.finish("DocumentTermsTest");
    }

    /** Who sits where by first come. */
    private void sits(String rows, String asks, String want) {
        due(rows + " for " + asks, want, Brief.seen(Brief.firstCome(rows, asks)));
    }

    // ---- What it is, the public face

    private void whatItIs() {
        says("Seats that more ask for than there are: rows with prices, groups that sit together, each row of turns"
            + " told by a number; the same asks seated by drawn turns, by first come, by who pays most; in how many"
            + " of all drawn turns each would sit; false askers by marks that are alike; seats given back, with terms"
            + " in a text, and given to the next in line who fits; doors that open once for a seat.");
        TicketsDrawn x = Brief.hall("2@10 1@20", "2<10#111 1<15#112 2<30p#911 1<20#555");
        // 9 of four are b, c, d, a.
        String[] byWay = {"bc|c", "aa|d", "cc|d"};
        for (int way = 0; way < 3; way++) {
            due("would, by way " + way, 2, x.would(way, 9));
            due("way " + way, 2, x.seat(way, 9));
            due("who sits by way " + way, byWay[way], Brief.seen(x));
            x.clear();
        }
        due("false askers", 0, x.heap(2));
        Check.terms(x, "part 50;");
        x.seat(1, 0);
        due("given to the next in line who fits", 1, x.back(0, 1));
        due("who that is", "ab|d", Brief.seen(x));
        due("with terms in a text", 5, x.tell(0, 6));
        x.days(0);
        due("a door opens", true, x.door(0, 1));
        due("once", false, x.door(0, 1));

        says("An object is used for at most 512 calls after it has been made; what later calls answer is free.");
        TicketsDrawn y = Brief.hall("2@10 1@20", "2<10 1<15 2<30p 1<20");
        int calls = 6;
        while (calls + 6 <= 512) {
            due("seat() behind " + calls + " calls", 2, y.seat(1, 0));
            due("back()", 1, y.back(0, 1));
            due("image()", true, y.image(calls % 3));
            y.clear();
            due("again()", true, y.again(calls % 3));
            y.clear();
            calls += 6;
        }
        while (calls < 512) {
            due("the last calls", 4, y.count(1));
            calls++;
        }
    }

    private static void publicFace() throws Exception {
        List<String> face = Document.face();
        List<String> promised = Document.signatures();
        Check.due("the face's constant", "static final int NONE = -1", face.remove(0));
        Check.due("promises in the face's order", String.join("; ", face), String.join("; ", promised));
        Check.due("the constructor comes first", "TicketsDrawn()", face.remove(0));
        List<String> made = new ArrayList<>();
        for (Method method : TicketsDrawn.class.getDeclaredMethods()) {
            if (Modifier.isPublic(method.getModifiers())) {
                made.add(told(method));
            }
        }
        for (String call : face) {
            String types = call.replaceAll(" \\w+(,|\\))", "$1");
            Check.due("the class has " + call, true, made.remove(types));
        }
        Check.due("the class has no others", "", String.join("; ", made));
        Check.due("the class is public and final", Modifier.PUBLIC | Modifier.FINAL,
            TicketsDrawn.class.getModifiers());
        Check.due("public constructors", 1, TicketsDrawn.class.getConstructors().length);
    }

    private static String told(Method method) {
        List<String> types = new ArrayList<>();
        for (Parameter parameter : method.getParameters()) {
            types.add(parameter.getType().getName());
        }
        return method.getReturnType().getName() + " " + method.getName() + "(" + String.join(", ", types) + ")";
    }

    // ---- Terms 1

    private void rowsAndAsks() {
        says("ROWS, at most 6, from 0 on, have SEATS 0 .. s - 1, s 1 .. 12, and a PRICE, 1 .. 999.");
        TicketsDrawn x = new TicketsDrawn();
        int[][] refused = {{0, 5}, {13, 5}, {5, 0}, {5, 1000}};
        for (int[] row : refused) {
            due(row[0] + " SEATS at " + row[1], NONE, x.row(row[0], row[1]));
        }
        int[][] taken = {{1, 1}, {12, 999}, {12, 1}, {1, 999}, {2, 500}, {7, 2}};
        for (int r = 0; r < 6; r++) {
            due("its number", r, x.row(taken[r][0], taken[r][1]));
            due("its SEATS", taken[r][0], x.about(r, 0));
            due("its PRICE", taken[r][1], x.about(r, 1));
        }
        due("a seventh", NONE, x.row(1, 1));
        TicketsDrawn y = Brief.firstCome("3@10", "1<10 1<10 1<10");
        due("SEAT 0", 0, y.at(0, 0));
        due("SEAT s - 1", 2, y.at(0, 2));
        due("no SEAT s", NONE, y.at(0, 3));
        due("no SEAT -1", NONE, y.at(0, -1));

        says("ASKS, at most 12, from 0 on, have a SIZE, 1 .. 6, a MOST that they pay for a seat, 0 .. 999,"
            + " three MARKS, 0 .. 9, and may be parted or not.");
        TicketsDrawn z = new TicketsDrawn();
        int[][] others = {{0, 5, 5}, {7, 5, 5}, {1, -1, 5}, {1, 1000, 5}, {1, 5, -1}, {1, 5, 1000}};
        for (int[] ask : others) {
            due(ask[0] + ", " + ask[1] + ", " + ask[2], NONE, z.ask(ask[0], ask[1], ask[2], true));
        }
        for (int a = 0; a < 12; a++) {
            int size = 1 + a % 6;
            int most = a % 2 * 999;
            int marks = a % 3 == 0 ? 999 : a % 3 == 1 ? 0 : 100 + a;
            due("its number", a, z.ask(size, most, marks, a % 2 == 0));
            due("its SIZE", size, z.tell(a, 0));
            due("its MOST", most, z.tell(a, 1));
            due("its MARKS", marks, z.tell(a, 2));
            due("parted or not", 1 - a % 2, z.tell(a, 3));
        }
        due("a thirteenth", NONE, z.ask(1, 1, 1, true));
    }

    private void holesAndBlocks() {
        says("A HOLE is a free SEAT without a free one next to it in its ROW.");
        TicketsDrawn x = Brief.firstCome("5@10 1@11 1@11", "1<10 1<10 1<10 1<10 1<10");
        due("two ROWS of one", 2, x.count(5));
        int[] givers = {1, 3, 2, 0, 4};
        int[] holes = {1, 2, 0, 0, 0};
        String[] seen = {"a.cde", "a.c.e", "a...e", "....e", "....."};
        for (int k = 0; k < 5; k++) {
            x.back(givers[k], 1);
            due("then", seen[k] + "|.|.", Brief.seen(x));
            due(seen[k], holes[k], x.about(0, 3));
            due(seen[k] + " and two", 2 + holes[k], x.count(5));
        }
        TicketsDrawn edges = Brief.firstCome("3@10", "1<10 1<10 1<10");
        edges.back(0, 1);
        due("at the left edge", 1, edges.about(0, 3));
        edges.back(2, 1);
        due("at both edges", 2, edges.about(0, 3));

        says("A BLOCK for an ASK: as many free SEATS as its SIZE, next to one another, in a ROW whose PRICE is its"
            + " MOST at most.");
        for (int size = 1; size <= 6; size++) {
            sits(size + "@10", size + "<10", "a".repeat(size));
            sits(size + "@10", size + "<9", ".".repeat(size));
            sits(size + "@10", size + "<11", "a".repeat(size));
        }
        sits("2@10", "3<10", "..");
        sits("1@10 1@10", "2<10", ".|.");
        TicketsDrawn y = Brief.firstCome("3@10", "1<10 1<10 1<10 2<10");
        y.back(0, 1);
        due("0 and 2 are not next to one another", 0, y.back(2, 1));
        due("0 and 1 are", 1, y.back(1, 1));
        due("there it sits", "dd.", Brief.seen(y));
    }

    private void theBlock() {
        says("THE BLOCK: of all BLOCKS that by which there are the fewest HOLES in its ROW then,");
        sits("4@10 3@11", "3<11", "....|aaa");
        sits("7@10", "2<10 2<10 1<10", "aabbc..");
        sits("6@10", "3<10 2<10 1<10", "aaabbc");
        sits("5@10", "1<10 1<10 1<10 1<10", "abcd.");
        // Behind one that is taken a free SEAT is not next to it: 2 or 4 is left as a HOLE.
        TicketsDrawn behind = Brief.firstCome("5@10", "1<10 1<10 3<10 2<10");
        behind.back(0, 1);
        behind.back(2, 3);
        due("as many either way", ".bdd.", Brief.seen(behind));

        says("less those that there were in it before;");
        sits("3@10 1@11", "1<11", "...|a");
        sits("2@10 1@11", "1<11 1<11 1<11", "bc|a");
        // One HOLE stands in ROW 0 before and then, none in ROW 1: by the HOLES then alone it would be ROW 1.
        TicketsDrawn x = Brief.firstCome("4@10 2@11", "1<10 1<10 4<11p 2<11");
        due("before", "abcc|cc", Brief.seen(x));
        due("a HOLE", 0, x.back(0, 1));
        due("two beside it, and two", 1, x.back(2, 4));
        due("then", ".bdd|..", Brief.seen(x));

        says("of several that with the least PRICE;");
        sits("2@11 2@10", "2<11", "..|aa");
        sits("2@12 2@11 2@10 2@11", "2<12 2<12 2<12 2<12", "dd|bb|aa|cc");

        says("then of the least ROW;");
        sits("2@10 2@10", "2<10", "aa|..");
        sits("3@10 2@10", "1<10 2<10", "abb|..");

        says("then of the least SEAT.");
        sits("4@10", "3<10", "aaa.");
        sits("5@10", "3<10", "aaa..");
        sits("12@10", "1<10 6<10", "abbbbbb.....");
    }

    private void turnOfAnAsk() {
        says("An ASK's TURN: it sits on THE BLOCK.");
        sits("1@10 2@10", "2<10p", ".|aa");
        sits("1@10 2@10", "2<10", ".|aa");
        TicketsDrawn x = Brief.firstCome("2@5 7@10", "5<10");
        due("its SEATS, the least first", "100 101 102 103 104", Brief.taken(x, 0));

        says("If there is none, and it may be parted, and there are as many free SEATS in ROWS with such PRICES:"
            + " one after the other sits on THE BLOCK for one.");
        sits("1@10 1@10", "2<10p", "a|a");
        sits("1@10 1@10", "2<10", ".|.");
        sits("1@10 1@11", "2<10p", ".|.");
        sits("1@10 1@11", "2<11p", "a|a");
        sits("1@10", "2<10p", ".");
        sits("5@10", "6<10p", ".....");
        TicketsDrawn y = Brief.firstCome("2@10 1@12 2@11", "4<12p");
        due("the HOLE, then by PRICE, then the HOLE that this left", "100 0 1 200", Brief.taken(y, 0));
        due("and no SEAT more", "aa|a|a.", Brief.seen(y));
        due("one is free", 1, y.count(4));

        says("Else it gets nothing.");
        TicketsDrawn z = Brief.firstCome("1@10 1@10 1@99", "3<10p 2<10 1<9");
        due("SEATS", "0 0 0", Brief.ofAll(z, 4));
        due("PAID", "0 0 0", Brief.ofAll(z, 5));
        due("free", 3, z.count(4));
    }

    // ---- Terms 2

    /** All orders of what is left, in the order of words in a dictionary. */
    private static void orders(String begun, String left, List<String> found) {
        if (left.isEmpty()) {
            found.add(begun);
        }
        for (int k = 0; k < left.length(); k++) {
            orders(begun + left.charAt(k), left.substring(0, k) + left.substring(k + 1), found);
        }
    }

    private static String asksAlike(int many) {
        return "1<10 ".repeat(many).strip();
    }

    private static String turns(TicketsDrawn x, int t) {
        StringBuilder order = new StringBuilder();
        int asks = x.count(1);
        for (int place = 0; place < asks; place++) {
            order.append((char) ('a' + x.turn(t, place)));
        }
        return order.toString();
    }

    private void turnsByNumber() {
        says("TURNS of n ASKS by a number t, 0 .. n! - 1: the ASK at place t / (n - 1)! of all, from the least on;"
            + " of the others that at place of the rest of t, by (n - 2)!; and so on.");
        for (int n = 1; n <= 6; n++) {
            List<String> all = new ArrayList<>();
            orders("", "abcdef".substring(0, n), all);
            for (int t = 0; t < all.size(); t++) {
                due("number " + t + " of " + n, all.get(t), turns(Brief.hall("", asksAlike(n)), t));
            }
            TicketsDrawn x = Brief.hall("", asksAlike(n));
            due("n! of " + n, NONE, x.turn(all.size(), 0));
            due("-1 of " + n, NONE, x.turn(-1, 0));
        }
        // 123456789 by 11!, 10!, ..: 3, 1, 0, 1, 7, 2, 4, 2, 3, 1, 1, 0.
        due("a number of twelve", "dbaelgjhkfic", turns(Brief.hall("", asksAlike(12)), 123456789));
        due("the last of twelve", "lkjihgfedcba", turns(Brief.hall("", asksAlike(12)), 479001599));
        due("12! of twelve", NONE, Brief.hall("", asksAlike(12)).turn(479001600, 0));
    }

    private void order(int way, int t, String want) {
        TicketsDrawn x = Brief.hall("", "1<5 1<9 1<7 1<9");
        due("nobody sits without ROWS, way " + way + ", " + t, 0, x.seat(way, t));
        due("the LINE shows the TURNS", want, Brief.line(x));
    }

    private void ways() {
        says("WAYS to SEAT all, in an empty hall: 0 by TURNS of a number;");
        TicketsDrawn x = Brief.firstCome("1@10", "1<10 1<10");
        due("it is full", 0, x.count(4));
        due("would, in an empty one", 1, x.would(0, 1));
        x.clear();
        due("anew, in an empty one", 1, x.seat(0, 1));
        due("b comes first by 1", "b", Brief.seen(x));
        order(0, 0, "abcd");
        order(0, 1, "abdc");
        order(0, 9, "bcda");
        order(0, 23, "dcba");

        says("1 first come: from ASK 0 on;");
        order(1, 0, "abcd");
        order(1, 23, "abcd");
        order(1, -1, "abcd");

        says("2 who pays most: by MOST, the greatest first, of several the least.");
        order(2, 0, "bdca");
        order(2, 23, "bdca");
        order(2, 24, "bdca");
    }

    /** By how many numbers an ask sits, each of them tried. */
    private static int sharesTried(String rows, String asks, int n, int ask) {
        int numbers = 1;
        for (int k = 2; k <= n; k++) {
            numbers *= k;
        }
        int share = 0;
        for (int t = 0; t < numbers; t++) {
            TicketsDrawn x = Brief.hall(rows, asks);
            x.seat(0, t);
            share += x.tell(ask, 4) > 0 ? 1 : 0;
        }
        return share;
    }

    private void shares() {
        says("SHARE of an ASK: by how many numbers of all n! it sits (told of at most 6 ASKS).");
        String[][] halls = {{"1@10", "1<10"}, {"", "1<10 1<10"}, {"2@10", "2<10 1<30 1<30"},
            {"2@10 3@15", "2<10 1<30 3<20p 2<15"}, {"4@10 2@9 1@12", "2<12 3<10 1<9 2<11p 2<10"},
            {"5@10 3@8 2@12", "3<10 2<12 4<12p 1<8 2<9 3<12"}};
        for (String[] hall : halls) {
            TicketsDrawn x = Brief.hall(hall[0], hall[1]);
            int n = x.count(1);
            for (int ask = 0; ask < n; ask++) {
                due(hall[0] + " for " + hall[1], sharesTried(hall[0], hall[1], n, ask), x.share(ask));
            }
        }
        TicketsDrawn six = Brief.hall("1@10", asksAlike(6));
        due("one SEAT for six", 120, six.share(5));
        six.ask(1, 10, 0, false);
        due("of seven it is not told", NONE, six.share(5));
        TicketsDrawn later = Brief.hall("1@10", "2<10");
        due("never", 0, later.share(0));
        later.row(2, 10);
        due("with a ROW more", 1, later.share(0));
        later.ask(2, 10, 0, false);
        due("with an ASK more", 1, later.share(0));
    }

    private void alikesAndHeaps() {
        says("ALIKE are two ASKS with at least two of their three MARKS alike.");
        int[] marks = {123, 124, 153, 423, 156, 426, 453, 456, 123, 312};
        boolean[] alike = {false, true, true, true, false, false, false, false, true, false};
        TicketsDrawn x = new TicketsDrawn();
        for (int m : marks) {
            x.ask(1, 1, m, false);
        }
        for (int a = 1; a < marks.length; a++) {
            due("123 and " + marks[a], alike[a], x.alike(0, a));
            due(marks[a] + " and 123", alike[a], x.alike(a, 0));
        }

        says("A HEAP: ASKS of which each comes to each other by ones that are ALIKE, one to the next.");
        TicketsDrawn y = Brief.hall("", "1<1#333 1<1#777 1<1#111 1<1#311 1<1#789 1<1#331 1<1#780");
        int[] least = {0, 1, 0, 0, 4, 0, 4};
        for (int a = 0; a < least.length; a++) {
            due("of " + a, least[a], y.heap(a));
        }
    }

    // ---- Terms 3

    private void seated() {
        says("SEATED (from seat() on, until clear()), all have what they got by that;");
        TicketsDrawn x = Brief.hall("3@10", "2<10 1<10 1<10");
        due("not before", 0, x.count(10));
        due("nobody", "...", Brief.seen(x));
        x.seat(1, 0);
        due("from seat() on", 1, x.count(10));
        due("what they got", "aab", Brief.seen(x));
        x.back(0, 2);
        x.back(1, 1);
        x.back(2, 1);
        due("though all is given back", 1, x.count(10));
        x.clear();
        due("until clear()", 0, x.count(10));
        due("nobody any more", "...", Brief.seen(x));

        says("THE LINE are those that got nothing, as their TURNS came.");
        TicketsDrawn y = Brief.hall("1@10", "1<10 1<9 1<10 1<10");
        due("none before", "", Brief.line(y));
        y.seat(0, 17);
        // 17 of four: 2, 3, 1, 0.
        due("c sits", "c", Brief.seen(y));
        due("the others", "dba", Brief.line(y));

        says("Who sits has PAID the PRICES.");
        TicketsDrawn z = Brief.firstCome("1@7 2@10", "3<30p 1<30 2<5");
        due("one of 7, two of 10", "27 0 0", Brief.ofAll(z, 5));
        due("not its MOST", 27, z.count(6));

        says("DAYS are left to the show, 0 .. 99 (30 at first).");
        due("at first", 30, new TicketsDrawn().count(8));
        for (int left = 0; left <= 30; left++) {
            TicketsDrawn days = new TicketsDrawn();
            due("so many: " + left, true, days.days(left));
            due("told", left, days.count(8));
        }
        for (int left : new int[] {-1, 31, 99, 100, 128, Integer.MIN_VALUE, Integer.MAX_VALUE}) {
            due("not " + left, false, new TicketsDrawn().days(left));
        }
    }

    private void givenBack() {
        says("GIVEN BACK: an ASK that sits gives so many SEATS back, 1 .. as many as it has, those that it took last"
            + " first.");
        for (int n = 1; n <= 4; n++) {
            TicketsDrawn x = Brief.firstCome("2@10 1@12 2@11", "4<12p");
            due("0 of four", NONE, x.back(0, 0));
            due("five of four", NONE, x.back(0, 5));
            due(n + " of four", 0, x.back(0, n));
            due("it keeps what it took first, " + n, "100 0 1 200 ".substring(0, new int[] {12, 8, 6, 4, 0}[n]).strip(),
                Brief.taken(x, 0));
            due("what it has, " + n, 4 - n, x.tell(0, 4));
            due("one more than that, " + n, NONE, x.back(0, 5 - n));
        }

        says("It gets a REFUND for each, by THE TERMS: so many percent of the PRICE, cut.");
        TicketsDrawn y = Brief.firstCome("1@33 2@99", "3<99p");
        Check.terms(y, "if row=0:part 100;part 50;");
        y.back(0, 2);
        due("two of 99, each cut", 49 + 49, y.tell(0, 6));
        y.back(0, 1);
        due("one of 33, whole", 98 + 33, y.tell(0, 6));
        due("PAID and REFUNDS stand side by side", 99 + 99 + 33, y.tell(0, 5));

        says("Then THE LINE is asked, from its beginning on, once each: who sits by its TURN now pays, and is out of"
            + " THE LINE.");
        TicketsDrawn z = Brief.firstCome("6@10", "6<10 4<10 3<10 2<9 3<10 1<10 2<10p");
        due("THE LINE", "bcdefg", Brief.line(z));
        due("three SEATS: one sits", 1, z.back(0, 3));
        due("the first who fits", "aaaccc", Brief.seen(z));
        due("it is out", "bdefg", Brief.line(z));
        due("it pays", "60 0 30 0 0 0 0", Brief.ofAll(z, 5));
        due("one SEAT more: f sits", 1, z.back(0, 1));
        due("who fits there", "aafccc", Brief.seen(z));
        due("g does not fit on one", 0, z.back(2, 1));
        due("g sits parted", 1, z.back(5, 1));
        due("on both", "aagccg", Brief.seen(z));
        due("who gave back does not come into it", "bde", Brief.line(z));
        due("what all PAID", "60 0 30 0 0 10 20", Brief.ofAll(z, 5));
    }

    // ---- Terms 3: the text

    private static int lines(String text) {
        return Check.terms(new TicketsDrawn(), text);
    }

    private void taken(int lines, String text) {
        due("taken: " + text, lines, lines(text));
    }

    private void fault(int number, int place, String text) {
        TicketsDrawn x = new TicketsDrawn();
        due("refused: " + text, NONE, Check.terms(x, text));
        due("the FAULT of " + text, number, x.fault(0));
        due("its place in " + text, place, x.fault(1));
    }

    private void tapeAndTokens() {
        says("THE TERMS are a text.");
        taken(1, "part 50;");
        says("THE TAPE has at most 300 bytes.");
        TicketsDrawn x = new TicketsDrawn();
        for (int k = 1; k <= 15; k++) {
            due("fed", 20 * k, x.feed(0x20202020, 0x20202020, 0x20202020, 0x20202020, 0x20202020));
        }
        due("320", NONE, x.feed(0x3b202020, 0, 0, 0, 0));
        due("300", 300, x.end(300));
        due("301", NONE, x.end(301));
        due("nothing of what was too much", 0, x.terms());

        says("TOKENS, as long as they go, blanks (10, 32) between:");
        taken(1, " if\n\ndays < 3\nand not  row=1 :\npart 50 ; ");
        taken(1, "if days<3and not row=1:part50;");
        fault(1, 0, "nonewhole;");
        fault(1, 0, "no ne;");
        fault(1, 6, "part5 0;");
        for (int blank : new int[] {0, 9, 11, 13, 31, 33, 160, 255}) {
            fault(1, 4, "none" + (char) blank + ";");
        }
        says("WORDS, rows of letters a .. z;");
        fault(1, 0, "None;");
        fault(1, 0, "nonE;");
        fault(1, 0, "zone;");
        fault(1, 0, "nonea;");
        fault(1, 0, "nonez;");
        fault(1, 4, "none`;");
        fault(1, 4, "none{;");
        says("NUMBERS, 1 to 3 digits;");
        taken(3, "part 0;part 00;part 099;");
        taken(1, "if price<999:none;");
        fault(1, 5, "part 0000;");
        fault(1, 9, "if price<1000:none;");
        fault(1, 6, "part 5/;");
        fault(1, 5, "part :;");
        says("signs : ; < > = one byte each.");
        taken(3, "if row<1:none;if row>1:none;if row=1:none;");
        fault(1, 7, "if row<=1:none;");
        fault(1, 7, "if row==1:none;");
        fault(1, 5, "none;;");
        fault(1, 9, "if row=1::none;");
    }

    private void linesAndTests() {
        says("TEXT: {LINE}.");
        taken(0, "");
        taken(0, " \n");
        taken(1, "none;");
        taken(12, "none;".repeat(12));
        says("LINE: ['if' TEST {'and' TEST} ':'] ('part' NUMBER | 'whole' | 'none') ';'.");
        taken(3, "part 7;whole;none;");
        taken(3, "if row=1:part 7;if row=1 and row=2:whole;if row=1 and row=2 and row=3 and row=4:none;");
        fault(1, 0, "and row=1:none;");
        fault(1, 0, ":none;");
        fault(1, 0, "row=1:none;");
        fault(1, 2, "if:none;");
        fault(1, 8, "if row=1,row=2:none;");
        fault(1, 9, "if row=1 row=2:none;");
        fault(1, 12, "if row=1 and:none;");
        fault(1, 9, "if row=1 none;");
        fault(1, 9, "if row=1:;");
        fault(1, 9, "if row=1:if row=2:none;");
        fault(1, 5, "part none;");
        fault(1, 4, "part;");
        fault(1, 6, "whole 7;");
        fault(1, 5, "none whole;");
        fault(1, 4, "none:");
        fault(1, 0, ";");
        says("TEST: ['not'] ('days' | 'price' | 'size' | 'row' | 'back') ('<' | '>' | '=') NUMBER.");
        for (String fact : new String[] {"days", "price", "size", "row", "back"}) {
            for (String sign : new String[] {"<", ">", "="}) {
                taken(1, "if " + fact + sign + "7:none;");
                taken(1, "if not " + fact + sign + "7:none;");
            }
        }
        fault(1, 7, "if not not row=1:none;");
        fault(1, 6, "if not:none;");
        fault(1, 3, "if seat=1:none;");
        fault(1, 3, "if 1=row:none;");
        fault(1, 7, "if row 1:none;");
        fault(1, 6, "if row:none;");
        fault(1, 7, "if row=row:none;");
        fault(1, 7, "if row=:none;");
        // Each WORD stands for itself alone.
        String[] words = {"if", "and", "not", "part", "whole", "none", "days", "price", "size", "row", "back"};
        for (String word : words) {
            wordBehind("", word, "if part whole none");
            wordBehind("if ", word, "not days price size row back");
            wordBehind("if not ", word, "days price size row back");
            wordBehind("if row=1 ", word, "and");
            wordBehind("if row=1:", word, "part whole none");
            wordBehind("none ", word, "");
        }
    }

    private void wordBehind(String begun, String word, String goOn) {
        boolean goesOn = List.of(goOn.split(" ")).contains(word);
        fault(1, goesOn ? begun.length() + word.length() : begun.length(), begun + word);
    }

    /** One seat of four given back: days 30, price 200, size 4, row 1, and three at once where so told. */
    private static int refund(String text, int back) {
        TicketsDrawn x = Brief.firstCome("1@1 4@200", "4<200");
        Check.terms(x, text);
        x.back(0, back);
        return x.tell(0, 6);
    }

    private void refundUnless(boolean holds, String test) {
        due(test, holds ? 0 : 200, refund("if " + test + ":none;", 1));
        due("not " + test, holds ? 200 : 0, refund("if not " + test + ":none;", 1));
    }

    private void whichLineTells() {
        says("The first LINE whose TESTS all hold tells: part: that, whole: 100, none: 0; 100 if none does.");
        String[] texts = {"part 7;", "whole;", "none;", "", "if row=0:none;", "if row=0:none;part 9;",
            "if row=1:part 3;part 9;", "if row=1 and days=29:part 3;part 9;", "if row=2 and days=30:part 3;part 9;",
            "if row=1 and days=30 and size=4 and price=200:part 3;", "part 2;part 3;whole;",
            "if not row=1:none;part 1;",
            "if not row=0:none;part 1;", "if row=1 and not days>30 and not size<4 and not price=1:part 40;",
            "if row=0:none;".repeat(11) + "if row<2 and days<31 and size<5 and price>199:part 45;",
            "if row=0:none;".repeat(11) + "if not row=0 and not days<9 and not size=1 and not price>200:part 35;"};
        int[] refunds = {14, 200, 0, 200, 200, 18, 6, 18, 18, 6, 4, 2, 0, 80, 90, 70};
        for (int k = 0; k < texts.length; k++) {
            due(texts[k], refunds[k], refund(texts[k], 1));
        }
        String[] facts = {"days", "price", "size", "row", "back"};
        int[] values = {30, 200, 4, 1, 1};
        for (int k = 0; k < 5; k++) {
            for (int number = values[k] - 1; number <= values[k] + 1; number++) {
                int sign = Integer.compare(values[k], number);
                refundUnless(sign < 0, facts[k] + "<" + number);
                refundUnless(sign == 0, facts[k] + "=" + number);
                refundUnless(sign > 0, facts[k] + ">" + number);
            }
        }
        says("(size: the ASK's SIZE; back: how many are GIVEN BACK at once.)");
        due("size, three back", 0, refund("if size=4:none;", 3));
        due("back, three of four", 0, refund("if back=3:none;", 3));
        due("back is one number for all three", 600, refund("if back<3:none;", 3));
        TicketsDrawn x = Brief.firstCome("4@100", "4<100");
        Check.terms(x, "if back=2 and size=4:part 10;none;");
        x.back(0, 1);
        due("one at once", 0, x.tell(0, 6));
        x.back(0, 2);
        due("two at once, of the three left", 20, x.tell(0, 6));
    }

    private void faults() {
        String fourTests = "if row=1 and row=1 and row=1 and row=1";
        says("FAULTS, with their places (a token's first byte; the end's):");
        fault(1, 6, "none  whole;");
        fault(1, 4, "none");
        fault(1, 7, "none \n ");
        fault(1, 300, "none" + " ".repeat(296));
        says("1 the first byte or token with which no text goes on (a longer row of digits is no token).");
        fault(1, 0, "?none");
        fault(1, 5, "none;?!");
        fault(1, 5, "none;nine;?");
        fault(1, 5, "part 1000;");
        fault(1, 9, "if days< 12345:none;?");
        // What would be a text again from there on does not count, nor does a later FAULT.
        for (String text : new String[] {"if row=1 |none;?", "part |none;?", "part |;?", "if |none;?",
            "if row=|:none;?", "if row|:none;?", "if row=1:|;?", "none |none;?", "none;|and row=1:none;?"}) {
            fault(1, text.indexOf('|'), text.replace("|", ""));
        }
        fault(1, 0, ";".repeat(300));
        fault(1, 299, " ".repeat(299) + "?");
        fault(1, 295, "none;".repeat(59) + ";;;;;");
        says("If there is none, the first of: 2 a NUMBER behind part above 100;");
        taken(1, "part 100;");
        taken(1, "if price>101:none;");
        fault(2, 5, "part 101;");
        fault(2, 13, "whole;  part 999;part 101;");
        fault(1, 9, "part 101;?");
        fault(1, 8, "part 101");
        fault(2, 5, "part 101;" + fourTests + " and row=1:none;");
        fault(2, 60, "none;".repeat(11) + "part 101;none;");
        says("3 one too many, at its first token: a 13th LINE, a 5th TEST of a LINE.");
        taken(12, "none;".repeat(12));
        fault(3, 60, "none;".repeat(13));
        fault(3, 62, "none;".repeat(12) + "\n if row=1:none;");
        fault(3, 60, "none;".repeat(12) + "part 101;");
        taken(1, fourTests + ":none;");
        fault(3, fourTests.length() + 5, fourTests + " and row=1:none;");
        fault(3, fourTests.length() + 5, fourTests + " and not row=1:part 101;");
        taken(2, (fourTests + ":none;").repeat(2));
        fault(3, 55 + fourTests.length() + 5, "none;".repeat(11) + fourTests + " and row=1:none;");
        fault(1, 65, "none;".repeat(13) + "?");
        fault(1, fourTests.length() + 10, fourTests + " and row=1");
    }

    // ---- Terms 4, constants

    private void doors() {
        says("A DOOR opens for a SEAT on which someone sits, once, on DAY 0 alone;");
        TicketsDrawn x = Brief.firstCome("4@10", "3<10");
        due("DAY 30", false, x.door(0, 0));
        x.days(1);
        due("DAY 1", false, x.door(0, 0));
        x.days(0);
        due("DAY 0", true, x.door(0, 0));
        due("once", false, x.door(0, 0));
        due("nobody sits", false, x.door(0, 3));
        due("another SEAT", true, x.door(0, 2));
        due("two opened", 2, x.count(9));

        says("a SEAT for which it opened is not GIVEN BACK: of those of its ASK that it took later all may be, and no"
            + " others.");
        due("none behind the last", NONE, x.back(0, 1));
        for (int opened = 0; opened < 4; opened++) {
            TicketsDrawn y = Brief.firstCome("2@10 1@12 2@11", "4<12p");
            y.days(0);
            int place = y.seats(0, opened);
            due("it opens for the one that it took as number " + opened, true, y.door(place / 100, place % 100));
            int later = 3 - opened;
            due("one more than those took later", NONE, y.back(0, later + 1));
            due("nothing is given by that", 4, y.tell(0, 4));
            due("all took later", later == 0 ? NONE : 0, y.back(0, later));
            due("it has the others", opened + 1, y.tell(0, 4));
            due("and keeps them", NONE, y.back(0, 1));
        }
    }

    private void constants() {
        says("The constants: `NONE = -1`: There is none.");
        due("NONE", -1, NONE);
    }
}
