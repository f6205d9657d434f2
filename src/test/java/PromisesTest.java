/** Promise by promise: answers worked out by hand from the document. */
public final class PromisesTest {
    private static final int NONE = TicketsDrawn.NONE;

    private static void due(String what, long want, long got) {
        Check.due(what, want, got);
    }

    private static void due(String what, boolean want, boolean got) {
        Check.due(what, want, got);
    }

    public static void main(String[] args) {
        newObject();
        rows();
        asks();
        blocks();
        partedAsks();
        seating();
        clearing();
        woulds();
        shares();
        turns();
        heapsAndAlikes();
        daysLeft();
        tape();
        termsAndFaults();
        givingBack();
        refunds();
        doors();
        tellings();
        counts();
        images();
        Check.finish("PromisesTest");
    }

    private static void newObject() {
        due("the constant", -1, NONE);
        TicketsDrawn x = new TicketsDrawn();
        int[] counts = {0, 0, 0, 0, 0, 0, 0, 0, 30, 0, 0};
        for (int what = 0; what < counts.length; what++) {
            due("1: count " + what, counts[what], x.count(what));
        }
        due("1: no fault", 0, x.fault(0));
        due("1: no place", NONE, x.fault(1));
        due("1: an empty tape", NONE, x.end(1));
        due("1: end 0", 0, x.end(0));
        for (int k = -1; k <= 3; k++) {
            due("1: no image " + k, false, x.again(k));
        }
    }

    private static void rows() {
        TicketsDrawn x = new TicketsDrawn();
        due("2: no seats", NONE, x.row(0, 5));
        due("2: 13 seats", NONE, x.row(13, 5));
        due("2: price 0", NONE, x.row(5, 0));
        due("2: price 1000", NONE, x.row(5, 1000));
        due("2: least int", NONE, x.row(Integer.MIN_VALUE, Integer.MAX_VALUE));
        due("2: none came", 0, x.count(0));
        due("2: the least row", 0, x.row(1, 1));
        due("2: the greatest row", 1, x.row(12, 999));
        for (int r = 2; r < 6; r++) {
            due("2: row " + r, r, x.row(r, r));
        }
        due("2: a seventh", NONE, x.row(3, 3));
        due("2: six", 6, x.count(0));
        TicketsDrawn y = new TicketsDrawn();
        y.row(2, 2);
        y.ask(1, 5, 0, false);
        y.seat(1, 0);
        due("2: all are seated", NONE, y.row(2, 2));
        y.clear();
        due("2: cleared", 1, y.row(3, 2));
        due("2: its seats are free", 3, y.about(1, 2));
    }

    private static void asks() {
        TicketsDrawn x = new TicketsDrawn();
        due("3: size 0", NONE, x.ask(0, 5, 0, true));
        due("3: size 7", NONE, x.ask(7, 5, 0, true));
        due("3: most -1", NONE, x.ask(2, -1, 0, true));
        due("3: most 1000", NONE, x.ask(2, 1000, 0, true));
        due("3: marks -1", NONE, x.ask(2, 5, -1, true));
        due("3: marks 1000", NONE, x.ask(2, 5, 1000, true));
        due("3: none came", 0, x.count(1));
        due("3: the least", 0, x.ask(1, 0, 0, false));
        due("3: the greatest", 1, x.ask(6, 999, 999, true));
        for (int a = 2; a < 12; a++) {
            due("3: ask " + a, a, x.ask(1, a, a, false));
        }
        due("3: a thirteenth", NONE, x.ask(1, 5, 5, false));
        due("3: twelve", 12, x.count(1));
        TicketsDrawn y = new TicketsDrawn();
        y.ask(1, 5, 0, false);
        y.seat(1, 0);
        due("3: all are seated", NONE, y.ask(1, 5, 0, false));
        y.clear();
        due("3: cleared", 1, y.ask(1, 5, 0, false));
    }

    /** Where one ask after the other sits, by first come. */
    private static void blocks() {
        TicketsDrawn x = new TicketsDrawn();
        x.row(5, 10);
        x.row(4, 8);
        x.row(4, 8);
        x.row(3, 9);
        x.ask(3, 9, 0, false);   // no hole in row 3; in rows 1 and 2 one would be left
        x.ask(2, 10, 0, false);  // no holes in 0, 1, 2: the least price, the least row, the least seat
        x.ask(1, 7, 0, false);   // pays too little
        x.ask(1, 8, 0, false);   // 1 of the two in row 1 leaves a hole: row 2, at its edge
        x.ask(3, 10, 0, false);  // takes what is left of row 2
        x.ask(4, 10, 0, false);  // row 0 with a hole at its end
        x.ask(1, 10, 0, false);  // that hole: one less
        due("4: six of seven sit", 6, x.seat(1, -7));
        due("BLOCK 0", 300, x.seats(0, 0));
        due("BLOCK 0, the last", 302, x.seats(0, 2));
        due("BLOCK 1", 100, x.seats(1, 0));
        due("BLOCK 2", NONE, x.seats(2, 0));
        due("BLOCK 3", 200, x.seats(3, 0));
        due("BLOCK 4", 201, x.seats(4, 0));
        due("BLOCK 5", 0, x.seats(5, 0));
        due("BLOCK 6", 4, x.seats(6, 0));
        TicketsDrawn y = new TicketsDrawn();
        y.row(6, 5);
        y.ask(2, 5, 0, false);
        y.ask(3, 5, 0, false);   // 2..4 would leave one hole, 3..5 one too: the least seat
        due("two sit", 2, y.seat(1, 0));
        due("BLOCK of the least seat", 2, y.seats(1, 0));
        TicketsDrawn z = new TicketsDrawn();
        z.row(2, 5);
        z.row(2, 4);
        z.ask(2, 5, 0, false);
        z.seat(1, 0);
        due("BLOCK of the least price", 100, z.seats(0, 0));
    }

    private static void partedAsks() {
        TicketsDrawn x = new TicketsDrawn();
        x.row(2, 10);
        x.row(1, 20);
        x.row(2, 30);
        x.ask(4, 20, 0, true);   // three within its price alone
        x.ask(4, 30, 0, false);  // may not be parted
        x.ask(4, 30, 0, true);   // the hole first, then the least price
        due("one sits", 1, x.seat(1, 0));
        due("parted, first", 100, x.seats(2, 0));
        due("parted, second", 0, x.seats(2, 1));
        due("parted, third", 1, x.seats(2, 2));
        due("parted, fourth", 200, x.seats(2, 3));
        due("parted, no fifth", NONE, x.seats(2, 4));
        due("parted, paid", 70, x.tell(2, 5));
        due("the line's first", 0, x.tell(0, 7));
        due("the line's second", 1, x.tell(1, 7));
        TicketsDrawn y = new TicketsDrawn();
        y.row(3, 10);
        y.ask(2, 10, 0, true);   // a block goes before parts
        y.seat(1, 0);
        due("together, first", 0, y.seats(0, 0));
        due("together, second", 1, y.seats(0, 1));
    }

    private static TicketsDrawn threeForTwoSeats() {
        TicketsDrawn x = new TicketsDrawn();
        x.row(2, 10);
        x.ask(2, 10, 123, false);
        x.ask(1, 30, 124, false);
        x.ask(1, 30, 534, false);
        return x;
    }

    private static void seating() {
        TicketsDrawn x = threeForTwoSeats();
        due("4: way -1", NONE, x.seat(-1, 0));
        due("4: way 3", NONE, x.seat(3, 0));
        due("4: t -1", NONE, x.seat(0, -1));
        due("4: t 6", NONE, x.seat(0, 6));
        due("4: nobody is seated by that", 0, x.count(10));
        due("4: who pays most", 2, x.seat(2, 99));
        due("4: all are seated", 1, x.count(10));
        due("4: of several the least", 1, x.at(0, 0));
        due("4: then the next", 2, x.at(0, 1));
        due("4: already", NONE, x.seat(1, 0));
        x.clear();
        due("4: turns 2, 1, 0", 2, x.seat(0, 5));
        due("4: 2 comes first", 2, x.at(0, 0));
        x.clear();
        due("4: first come", 1, x.seat(1, 0));
        due("4: 0 sits", 0, x.at(0, 1));
        due("4: 1 is first in line", 0, x.tell(1, 7));
        due("4: 2 is second", 1, x.tell(2, 7));
        TicketsDrawn none = new TicketsDrawn();
        none.row(3, 3);
        due("4: no asks", NONE, none.seat(1, 0));
        TicketsDrawn bare = new TicketsDrawn();
        bare.ask(1, 9, 0, true);
        due("4: no rows", 0, bare.seat(0, 0));
        due("4: no rows, a line", 1, bare.count(3));
        TicketsDrawn order = new TicketsDrawn();
        order.ask(1, 1, 0, true);
        order.ask(1, 3, 0, true);
        order.ask(1, 2, 0, true);
        order.ask(1, 3, 0, true);
        order.seat(2, 0);
        int[] places = {3, 0, 2, 1};
        for (int a = 0; a < 4; a++) {
            due("4: by most, " + a, places[a], order.tell(a, 7));
        }
    }

    private static void clearing() {
        TicketsDrawn x = threeForTwoSeats();
        Check.terms(x, "part 50;");
        x.seat(1, 0);
        x.back(0, 1);
        x.days(0);
        x.door(0, 0);
        x.clear();
        due("5: not seated", 0, x.count(10));
        due("5: nobody sits", 0, x.count(2));
        due("5: no line", 0, x.count(3));
        due("5: no place in line", NONE, x.tell(2, 7));
        due("5: all free", 2, x.count(4));
        due("5: no money", 0, x.count(6));
        due("5: days", 30, x.count(8));
        due("5: no doors", 0, x.count(9));
        due("5: no seats", 0, x.tell(0, 4));
        due("5: nothing paid", 0, x.tell(0, 5));
        due("5: no refunds", 0, x.tell(0, 6));
        due("5: nobody there", NONE, x.at(0, 0));
        due("5: rows stay", 1, x.count(0));
        due("5: asks stay", 3, x.count(1));
        due("5: terms stay", 1, x.count(7));
        due("5: seated anew", 1, x.seat(1, 0));
        due("5: paid anew", 20, x.tell(0, 5));
        x.days(0);
        due("5: doors anew", true, x.door(0, 0));
    }

    private static void woulds() {
        TicketsDrawn x = threeForTwoSeats();
        due("6: way 3", NONE, x.would(3, 0));
        due("6: way -1", NONE, x.would(-1, 0));
        due("6: t 6", NONE, x.would(0, 6));
        due("6: t -1", NONE, x.would(0, -1));
        due("6: first come", 1, x.would(1, -5));
        due("6: who pays most", 2, x.would(2, -5));
        due("6: 0 first", 1, x.would(0, 1));
        due("6: 0 last", 2, x.would(0, 3));
        due("6: nobody is seated", 0, x.count(10));
        due("6: all free", 2, x.count(4));
        x.seat(1, 0);
        due("6: as if empty", 2, x.would(2, 0));
        due("6: as it was", 0, x.at(0, 0));
        due("6: the line as it was", 2, x.count(3));
        due("6: no asks", NONE, new TicketsDrawn().would(1, 0));
    }

    private static void shares() {
        TicketsDrawn x = threeForTwoSeats();
        // 0 sits if it comes first; 1 and 2 sit unless it does.
        due("7: 0", 2, x.share(0));
        due("7: 1", 4, x.share(1));
        due("7: 2", 4, x.share(2));
        due("7: no 3", NONE, x.share(3));
        due("7: no -1", NONE, x.share(-1));
        x.seat(1, 0);
        due("7: seated", 2, x.share(0));
        x.clear();
        x.ask(1, 30, 0, false);
        due("7: one ask more", 6, x.share(0));
        due("7: of three singles two", 12, x.share(1));
        x.row(2, 10);
        // The second single fills up the first one's row: 0 sits unless it comes last.
        due("7: one row more", 18, x.share(0));
        x.image(0);
        x.ask(1, 30, 0, false);
        x.ask(1, 30, 0, false);
        // 0 sits if it is one of the first three: two singles sit then, and else four.
        due("7: of six", 360, x.share(0));
        due("7: a single of six", (360 * 2 + 360 * 4) / 5, x.share(1));
        x.ask(1, 30, 0, false);
        due("7: seven asks", NONE, x.share(0));
        x.again(0);
        due("7: again four", 18, x.share(0));
    }

    private static void turns() {
        TicketsDrawn x = threeForTwoSeats();
        int[][] all = {{0, 1, 2}, {0, 2, 1}, {1, 0, 2}, {1, 2, 0}, {2, 0, 1}, {2, 1, 0}};
        for (int t = 0; t < 6; t++) {
            for (int place = 0; place < 3; place++) {
                due("8: " + t + " at " + place, all[t][place], x.turn(t, place));
            }
        }
        due("8: t 6", NONE, x.turn(6, 0));
        due("8: t -1", NONE, x.turn(-1, 0));
        due("8: place 3", NONE, x.turn(0, 3));
        due("8: place -1", NONE, x.turn(0, -1));
        due("8: no asks", NONE, new TicketsDrawn().turn(0, 0));
        TicketsDrawn y = new TicketsDrawn();
        for (int a = 0; a < 12; a++) {
            y.ask(1, 1, 0, false);
        }
        due("8: the last of twelve begins with 11", 11, y.turn(479001599, 0));
        due("8: and ends with 0", 0, y.turn(479001599, 11));
        due("8: one more", NONE, y.turn(479001600, 0));
    }

    private static void heapsAndAlikes() {
        TicketsDrawn x = new TicketsDrawn();
        int[] marks = {123, 555, 423, 426, 987, 132, 985, 906, 7};
        for (int m : marks) {
            x.ask(1, 1, m, false);
        }
        due("10: the last two marks", true, x.alike(0, 2));
        due("10: the first two", true, x.alike(2, 3));
        due("10: one alone", false, x.alike(0, 3));
        due("10: in other places", false, x.alike(0, 5));
        due("10: the other way", true, x.alike(6, 4));
        due("10: one and the same", false, x.alike(1, 1));
        due("10: no 9", false, x.alike(0, 9));
        due("10: no -1", false, x.alike(-1, 0));
        due("10: first and last", false, x.alike(7, 8));
        int[] least = {0, 1, 0, 0, 4, 5, 4, 7, 8};
        for (int a = 0; a < least.length; a++) {
            due("9: heap of " + a, least[a], x.heap(a));
        }
        due("9: no 9", NONE, x.heap(9));
        due("9: no -1", NONE, x.heap(-1));
        TicketsDrawn y = new TicketsDrawn();
        for (int m : new int[] {111, 333, 331, 311}) {
            y.ask(1, 1, m, false);
        }
        for (int a = 0; a < 4; a++) {
            due("9: a chain, " + a, 0, y.heap(a));
        }
        TicketsDrawn same = new TicketsDrawn();
        same.ask(1, 1, 345, false);
        same.ask(1, 1, 345, false);
        due("10: all three", true, same.alike(0, 1));
        same.ask(1, 1, 305, false);
        due("10: the outer two", true, same.alike(0, 2));
    }

    private static void daysLeft() {
        TicketsDrawn x = new TicketsDrawn();
        due("11: -1", false, x.days(-1));
        due("11: 31", false, x.days(31));
        due("11: 99", false, x.days(99));
        due("11: 100", false, x.days(100));
        due("11: as many", true, x.days(30));
        due("11: 7", true, x.days(7));
        due("11: 7 are left", 7, x.count(8));
        due("11: 8", false, x.days(8));
        due("11: still 7", 7, x.count(8));
        due("11: 0", true, x.days(0));
        due("11: 0 are left", 0, x.count(8));
        x.clear();
        due("11: 30 anew", true, x.days(30));
    }

    private static void tape() {
        TicketsDrawn x = new TicketsDrawn();
        for (int k = 1; k <= 15; k++) {
            due("12: feed " + k, 20 * k, x.feed(0, 0, 0, 0, 0));
        }
        due("12: 320", NONE, x.feed(0, 0, 0, 0, 0));
        due("12: nothing came", 300, x.end(300));
        due("13: 301", NONE, x.end(301));
        due("13: -1", NONE, x.end(-1));
        due("13: 281", 281, x.end(281));
        due("12: 301 in all", NONE, x.feed(0, 0, 0, 0, 0));
        due("13: 280", 280, x.end(280));
        due("12: 300 in all", 300, x.feed(0, 0, 0, 0, 0));
        due("13: 0", 0, x.end(0));
        due("13: 1 no more", NONE, x.end(1));
        // "none" and ";" with what is no text behind
        x.feed(0x6e6f6e65, 0x3b41ff80, -1, 0x80000000, 7);
        due("13: five", 5, x.end(5));
        due("12: highest first", 1, x.terms());
        due("14: the tape is empty", NONE, x.end(1));
        x.feed(0x6e6f6e65, 0x3b20200a, -1, 0, 0);
        due("14: byte 255 is none", NONE, x.terms());
        due("15: place 8", 8, x.fault(1));
    }

    private static void termsDue(String text, int lines) {
        TicketsDrawn x = new TicketsDrawn();
        due("14: lines of " + text, lines, Check.terms(x, text));
        due("15: none in " + text, 0, x.fault(0));
        due("15: nowhere in " + text, NONE, x.fault(1));
        due("14: count of " + text, lines, x.count(7));
        due("14: the tape after " + text, NONE, x.end(1));
    }

    private static void faultDue(String text, int fault, int place) {
        TicketsDrawn x = new TicketsDrawn();
        Check.terms(x, "none;none;");
        due("14: " + text, NONE, Check.terms(x, text));
        due("15: fault of " + text, fault, x.fault(0));
        due("15: place in " + text, place, x.fault(1));
        due("15: no 2", NONE, x.fault(2));
        due("15: no -1", NONE, x.fault(-1));
        due("14: the tape after " + text, NONE, x.end(1));
        due("14: the terms before stay", 2, x.count(7));
    }

    private static String times(String text, int n) {
        return text.repeat(n);
    }

    private static void termsAndFaults() {
        termsDue("", 0);
        termsDue(" \n ", 0);
        termsDue("part 100;", 1);
        termsDue("part100;whole;none;", 3);
        termsDue("\nif not\ndays<3and size=1 and row>0 and not back=999 : none ; ", 1);
        termsDue(times("none;", 12), 12);
        termsDue("if price>000:part 007;if price<1:whole;", 2);
        faultDue("part", 1, 4);
        faultDue("part  ", 1, 6);
        faultDue("if days:none;", 1, 7);
        faultDue("part 101;", 2, 5);
        faultDue("if not not size>1:none;", 1, 7);
        faultDue("whole 5;", 1, 6);
        faultDue("part 1000;", 1, 5);
        faultDue("part 0050;", 1, 5);
        faultDue("if row=1 and row=1 and row=1 and row=1 and row=1:none;", 3, 43);
        faultDue("if row=1 and row=1 and row=1 and row=1 and not row=1:none;", 3, 43);
        faultDue(times("none;", 13), 3, 60);
        faultDue(times("none;", 12) + " if days=1:none;", 3, 61);
        faultDue("give 1;", 1, 0);
        faultDue("if size=1 none;", 1, 10);
        faultDue("none;;", 1, 5);
        faultDue("none", 1, 4);
        faultDue("non", 1, 0);
        faultDue("nonewhole;", 1, 0);
        faultDue("None;", 1, 0);
        faultDue("none,", 1, 4);
        faultDue("none\t;", 1, 4);
        faultDue("if:none;", 1, 2);
        faultDue("if days<3 and:none;", 1, 13);
        faultDue("if days<3:", 1, 10);
        faultDue("if days<=3:none;", 1, 8);
        faultDue("if days 3:none;", 1, 8);
        faultDue("if 3<days:none;", 1, 3);
        faultDue("if days<size:none;", 1, 8);
        faultDue("if days<1234:none;", 1, 8);
        faultDue("part 50 50;", 1, 8);
        faultDue("part none;", 1, 5);
        faultDue("if days<3 none;", 1, 10);
        faultDue("none;if", 1, 7);
        // As many tokens as the tape can have.
        faultDue(times(";", 300), 1, 0);
        faultDue(times("none;", 60), 3, 60);
        faultDue(times("9", 300), 1, 0);
        faultDue(times("a", 300), 1, 0);
        faultDue(times(" ", 296) + "none", 1, 300);
        faultDue("if " + times("row=1 and ", 29) + "row=1:", 1, 299);
        // A fault of the text counts before those that stand earlier.
        faultDue("part 101;part", 1, 13);
        faultDue(times("none;", 13) + "?", 1, 65);
        // Of the others the first.
        faultDue("part 200;" + times("none;", 12), 2, 5);
        faultDue(times("none;", 12) + "part 999;", 3, 60);
        faultDue("if row=1 and row=1 and row=1 and row=1 and row=1:part 101;", 3, 43);
        TicketsDrawn x = new TicketsDrawn();
        Check.terms(x, "none");
        due("15: a fault", 1, x.fault(0));
        Check.terms(x, "none;");
        due("15: of the latest", 0, x.fault(0));
        due("15: no place of the latest", NONE, x.fault(1));
        due("14: terms of nothing", 0, x.terms());
        due("14: no lines are left", 0, x.count(7));
    }

    private static void givingBack() {
        TicketsDrawn x = new TicketsDrawn();
        x.row(4, 10);
        x.ask(4, 10, 0, false);
        x.ask(3, 10, 0, false);
        x.ask(1, 9, 0, false);
        x.ask(1, 10, 0, false);
        x.ask(2, 10, 0, true);
        due("16: nobody is seated", NONE, x.back(0, 1));
        x.seat(1, 0);
        due("16: none such", NONE, x.back(5, 1));
        due("16: none such below", NONE, x.back(-1, 1));
        due("16: n 0", NONE, x.back(0, 0));
        due("16: n -1", NONE, x.back(0, -1));
        due("16: n 5", NONE, x.back(0, 5));
        due("16: who has none", NONE, x.back(1, 1));
        due("16: nothing came of that", 0, x.count(4));
        due("16: two go, one sits", 1, x.back(0, 2));
        due("16: the last first", 0, x.at(0, 1));
        due("16: who fits", 3, x.at(0, 2));
        due("16: one free", NONE, x.at(0, 3));
        due("16: has two", 2, x.tell(0, 4));
        due("16: refund", 20, x.tell(0, 6));
        due("16: paid stays", 40, x.tell(0, 5));
        due("16: the next in line stays", 0, x.tell(1, 7));
        due("16: and the one behind", 1, x.tell(2, 7));
        due("16: who sits is out", NONE, x.tell(3, 7));
        due("16: the last moves up", 2, x.tell(4, 7));
        due("16: who sits paid", 10, x.tell(3, 5));
        due("16: no third", NONE, x.back(0, 3));
        due("16: one more, two sit on parts", 1, x.back(0, 1));
        due("16: parted, the first", 1, x.seats(4, 0));
        due("16: parted, the second", 3, x.seats(4, 1));
        due("16: nobody else fits", 0, x.back(0, 1));
        due("16: who gave all is not in line", NONE, x.tell(0, 7));
        due("16: and does not sit", 2, x.count(2));
        due("16: two in line", 2, x.count(3));
        due("16: it has no more", NONE, x.back(0, 1));
        due("16: its refunds", 40, x.tell(0, 6));
        due("16: money", 10 + 20, x.count(6));
    }

    private static int refund(String text, int days, int n) {
        TicketsDrawn x = new TicketsDrawn();
        x.row(2, 33);
        x.row(2, 99);
        x.ask(4, 99, 0, true);
        Check.terms(x, text);
        x.seat(1, 0);
        x.days(days);
        x.back(0, n);
        return x.tell(0, 6);
    }

    private static void refunds() {
        // The ask sits on row 0 first, then on row 1: 33, 33, 99, 99.
        due("REFUND: no terms", 99, refund("", 30, 1));
        due("REFUND: whole", 264, refund("whole;", 30, 4));
        due("REFUND: none", 0, refund("none;", 30, 4));
        due("REFUND: each is cut", 49 + 49 + 16 + 16, refund("part 50;", 30, 4));
        due("REFUND: part 0", 0, refund("part 0;", 30, 1));
        due("REFUND: the first line", 9, refund("part 10;part 20;", 30, 1));
        due("REFUND: no line holds", 99, refund("if days<30:none;", 30, 1));
        due("REFUND: a line behind", 19, refund("if days<30:none;part 20;", 30, 1));
        due("REFUND: days", 0, refund("if days<30:none;", 29, 1));
        due("REFUND: price", 99 + 99 + 16 + 16, refund("if price<34:part 50;", 30, 4));
        due("REFUND: price above", 66, refund("if price>33:none;", 30, 4));
        due("REFUND: row 1", 66, refund("if row=1:none;", 30, 4));
        due("REFUND: row 0", 198, refund("if row=0:none;", 30, 4));
        due("REFUND: size", 0, refund("if size=4:none;", 30, 2));
        due("REFUND: size is not what it has", 198, refund("if size=2:none;", 30, 2));
        due("REFUND: back", 0, refund("if back=2:none;", 30, 2));
        due("REFUND: back is not size", 99, refund("if back=4:none;", 30, 1));
        due("REFUND: not", 99, refund("if not back=1:none;", 30, 1));
        due("REFUND: not holds", 0, refund("if not back=2:none;", 30, 1));
        due("REFUND: all tests", 99, refund("if back=1 and row=0:none;", 30, 1));
        due("REFUND: both hold", 0, refund("if back=1 and not row=0 and days>29:none;", 30, 1));
    }

    private static void doors() {
        TicketsDrawn x = new TicketsDrawn();
        x.row(6, 10);
        x.ask(4, 10, 0, false);
        x.ask(3, 10, 0, false);
        due("17: nobody is seated", false, x.door(0, 0));
        x.seat(1, 0);
        due("17: 30 days", false, x.door(0, 1));
        x.days(1);
        due("17: 1 day", false, x.door(0, 1));
        x.days(0);
        due("17: no row 1", false, x.door(1, 0));
        due("17: no row -1", false, x.door(-1, 0));
        due("17: no seat 6", false, x.door(0, 6));
        due("17: no seat -1", false, x.door(0, -1));
        due("17: nobody sits", false, x.door(0, 4));
        due("17: far off", false, x.door(Integer.MAX_VALUE, Integer.MIN_VALUE));
        due("17: it opens", true, x.door(0, 1));
        due("17: once", false, x.door(0, 1));
        due("17: counted", 1, x.count(9));
        due("17: three may not go", NONE, x.back(0, 3));
        due("17: two may", 1, x.back(0, 2));
        due("17: the next sits there", 1, x.at(0, 2));
        due("17: no more may go", NONE, x.back(0, 1));
        due("17: it opens for the next", true, x.door(0, 2));
        due("17: for the first", true, x.door(0, 0));
        due("17: three", 3, x.count(9));
        due("17: of those took later all", 0, x.back(1, 2));
        due("17: the opened stays", 1, x.at(0, 2));
    }

    private static void tellings() {
        TicketsDrawn x = threeForTwoSeats();
        x.ask(6, 999, 7, true);
        x.seat(1, 0);
        int[] zero = {2, 10, 123, 0, 2, 20, 0, NONE, NONE};
        int[] three = {6, 999, 7, 1, 0, 0, 0, 2, NONE};
        for (int what = 0; what < 9; what++) {
            due("19: of 0, " + what, zero[what], x.tell(0, what));
            due("19: of 3, " + what, three[what], x.tell(3, what));
            due("19: of 4, " + what, NONE, x.tell(4, what));
            due("19: of -1, " + what, NONE, x.tell(-1, what));
        }
        due("19: what -1", NONE, x.tell(0, -1));
        due("18: row 0, seat 1", 0, x.at(0, 1));
        due("18: seat 2", NONE, x.at(0, 2));
        due("18: seat -1", NONE, x.at(0, -1));
        due("18: row 1", NONE, x.at(1, 0));
        due("18: row -1", NONE, x.at(-1, 0));
        due("20: k 1", 1, x.seats(0, 1));
        due("20: k 2", NONE, x.seats(0, 2));
        due("20: k -1", NONE, x.seats(0, -1));
        due("20: of one in line", NONE, x.seats(1, 0));
        due("20: no ask 4", NONE, x.seats(4, 0));
        due("20: no ask -1", NONE, x.seats(-1, 0));
        x.back(0, 1);
        due("20: one given back", NONE, x.seats(0, 1));
        due("20: taken by the next", 1, x.seats(1, 0));
        TicketsDrawn y = new TicketsDrawn();
        y.row(1, 7);
        y.row(5, 8);
        y.ask(2, 8, 0, false);
        y.ask(2, 8, 0, false);
        due("21: a row of one is a hole", 1, y.about(0, 3));
        due("21: free before", 5, y.about(1, 2));
        y.seat(1, 0);
        int[] one = {5, 8, 1, 1, NONE};
        for (int what = 0; what < 5; what++) {
            due("21: of 1, " + what, one[what], y.about(1, what));
            due("21: of 2, " + what, NONE, y.about(2, what));
            due("21: of -1, " + what, NONE, y.about(-1, what));
        }
        due("21: what -1", NONE, y.about(1, -1));
        due("18: row 1, seat 0", 0, y.at(1, 0));
        due("18: seat 100 is not row 1", NONE, y.at(0, 100));
        due("18: seat -100 is not row 1", NONE, y.at(2, -100));
        due("18: row 1, seat 4", NONE, y.at(1, 4));
        y.back(0, 2);
        due("21: two and one are free", 3, y.about(1, 2));
        due("21: one is alone", 1, y.about(1, 3));
    }

    private static void counts() {
        TicketsDrawn x = new TicketsDrawn();
        x.row(4, 10);
        x.row(1, 20);
        x.ask(3, 10, 0, false);
        x.ask(2, 20, 0, false);
        x.ask(1, 5, 0, false);
        Check.terms(x, "part 50;none;");
        x.seat(1, 0);
        int[] first = {2, 3, 1, 2, 2, 2, 30, 2, 30, 0, 1, NONE};
        for (int what = 0; what < first.length; what++) {
            due("22: first, " + what, first[what], x.count(what));
        }
        x.days(0);
        x.door(0, 0);
        x.back(0, 1);
        int[] then = {2, 3, 2, 1, 1, 1, 30 - 5 + 20, 2, 0, 1, 1, NONE};
        for (int what = 0; what < then.length; what++) {
            due("22: then, " + what, then[what], x.count(what));
        }
        due("22: -1", NONE, x.count(-1));
    }

    /** An image is of what rows and asks were like, too. */
    private static void otherRowsAndAsks(TicketsDrawn x) {
        x.image(1);
        TicketsDrawn y = new TicketsDrawn();
        y.row(3, 7);
        y.ask(2, 9, 456, true);
        y.image(0);
        y.ask(1, 8, 123, false);
        y.row(5, 6);
        y.seat(2, 0);
        y.image(1);
        y.again(0);
        y.row(1, 1);
        y.ask(6, 1, 1, true);
        y.seat(1, 0);
        y.again(1);
        int[] rows = {3, 7, 3, 0, 5, 6, 2, 0};
        for (int k = 0; k < 8; k++) {
            due("24: of rows, " + k, rows[k], k < 4 ? y.about(0, k) : y.about(1, k - 4));
        }
        int[] asks = {2, 9, 456, 1, 2, 12, 0, NONE, 1, 8, 123, 0, 1, 6, 0, NONE};
        for (int k = 0; k < 16; k++) {
            due("24: of asks, " + k, asks[k], y.tell(k / 8, k % 8));
        }
        x.again(1);
    }

    private static void images() {
        TicketsDrawn x = threeForTwoSeats();
        due("23: -1", false, x.image(-1));
        due("23: 3", false, x.image(3));
        due("24: none yet", false, x.again(0));
        Check.terms(x, "part 200;");
        Check.feed(x, "part 25;", 0);
        due("23: 0", true, x.image(0));
        x.terms();
        x.seat(1, 0);
        x.back(0, 1);
        x.days(0);
        x.door(0, 0);
        due("23: 2", true, x.image(2));
        due("24: 1 is none", false, x.again(1));
        due("24: 3 is none", false, x.again(3));
        due("24: -1 is none", false, x.again(-1));
        x.clear();
        x.row(3, 3);
        x.ask(1, 1, 1, true);
        due("24: 0", true, x.again(0));
        int[] first = {1, 3, 0, 0, 2, 0, 0, 0, 30, 0, 0};
        for (int what = 0; what < first.length; what++) {
            due("24: image 0, " + what, first[what], x.count(what));
        }
        due("24: the fault", 2, x.fault(0));
        due("24: its place", 5, x.fault(1));
        due("24: the tape", 8, x.end(8));
        due("24: no more of it", NONE, x.end(9));
        due("24: its text", 1, x.terms());
        due("24: 2", true, x.again(2));
        int[] second = {1, 3, 2, 1, 0, 0, 20 - 2 + 10, 1, 0, 1, 1};
        for (int what = 0; what < second.length; what++) {
            due("24: image 2, " + what, second[what], x.count(what));
        }
        due("24: who sits", 1, x.at(0, 1));
        due("24: the line", 0, x.tell(2, 7));
        due("24: its refund", 2, x.tell(0, 6));
        due("24: the door", false, x.door(0, 0));
        due("24: no fault", 0, x.fault(0));
        due("24: an empty tape", NONE, x.end(1));
        x.back(1, 1);
        due("24: once more", true, x.again(2));
        due("24: an image does not change with what comes", 1, x.at(0, 1));
        otherRowsAndAsks(x);
        x.clear();
        due("23: over the old one", true, x.image(2));
        x.seat(1, 0);
        x.again(2);
        due("24: the new one", 0, x.count(10));
    }
}
