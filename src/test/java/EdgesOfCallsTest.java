/** Promises 2 to 24, call by call: each case in which the document says NONE or false, and the last before it. */
public final class EdgesOfCallsTest {
    private static final int NONE = TicketsDrawn.NONE;
    private static final int LOW = Integer.MIN_VALUE;
    private static final int HIGH = Integer.MAX_VALUE;

    private static void due(String what, long want, long got) {
        Check.due(what, want, got);
    }

    private static void due(String what, boolean want, boolean got) {
        Check.due(what, want, got);
    }

    public static void main(String[] args) {
        row();
        ask();
        seat();
        clear();
        would();
        share();
        turn();
        heap();
        alike();
        days();
        feed();
        end();
        terms();
        fault();
        back();
        backAfterBack();
        door();
        at();
        tell();
        tellInLine();
        seats();
        about();
        count();
        image();
        again();
        imagesOfFullObjects();
        imagesOfObjectsUnlikeInAll();
        whatImagesDoThen();
        Check.finish("EdgesOfCallsTest");
    }

    /** Promise 2: "A ROW: its number. NONE: there are 6, other numbers, or all are SEATED." */
    private static void row() {
        int[][] taken = {{1, 1}, {1, 999}, {12, 1}, {12, 999}, {2, 2}, {11, 998}};
        int[][] refused = {{0, 1}, {0, 999}, {13, 1}, {13, 999}, {1, 0}, {12, 0}, {1, 1000}, {12, 1000}, {-1, 1},
            {1, -1}, {LOW, 1}, {HIGH, 1}, {1, LOW}, {1, HIGH}, {-12, 5}, {5, -999}, {268, 5}, {5, 65537}};
        TicketsDrawn x = new TicketsDrawn();
        for (int k = 0; k < 6; k++) {
            for (int[] other : refused) {
                due("2: other numbers, " + other[0] + ", " + other[1], NONE, x.row(other[0], other[1]));
            }
            due("2: as many as before", k, x.count(0));
            due("2: its number " + k, k, x.row(taken[k][0], taken[k][1]));
        }
        for (int[] one : taken) {
            due("2: there are 6", NONE, x.row(one[0], one[1]));
        }
        for (int k = 0; k < 6; k++) {
            due("2: SEATS of " + k, taken[k][0], x.about(k, 0));
            due("2: PRICE of " + k, taken[k][1], x.about(k, 1));
        }
        x.clear();
        due("2: there are 6 after clear(), too", NONE, x.row(1, 1));
        TicketsDrawn y = Halls.of(1, 1, 1, 1);
        y.would(1, 0);
        due("2: would() SEATS nobody", 1, y.row(1, 1));
        y.seat(1, 0);
        due("2: all are SEATED", NONE, y.row(1, 1));
        due("2: two ROWS", 2, y.count(0));
        y.back(0, 1);
        due("2: all are SEATED, though none sits", NONE, y.row(1, 1));
        y.clear();
        due("2: nobody is SEATED any more", 2, y.row(1, 1));
    }

    /** Promise 3: "its number. NONE: there are 12, other numbers, or all are SEATED." */
    private static void ask() {
        int[][] refused = {{0, 5, 5}, {7, 5, 5}, {-1, 5, 5}, {1, -1, 5}, {1, 1000, 5}, {1, 5, -1}, {1, 5, 1000},
            {LOW, 5, 5}, {HIGH, 5, 5}, {1, LOW, 5}, {1, HIGH, 5}, {1, 5, LOW}, {1, 5, HIGH}, {6, 5, -999}, {257, 5, 5}};
        TicketsDrawn x = new TicketsDrawn();
        for (int k = 0; k < 12; k++) {
            for (int[] other : refused) {
                due("3: other numbers, " + other[0] + ", " + other[1] + ", " + other[2], NONE,
                    x.ask(other[0], other[1], other[2], k % 2 == 0));
            }
            due("3: as many as before", k, x.count(1));
            due("3: its number " + k, k, x.ask(k < 6 ? 1 : 6, k % 2 == 0 ? 0 : 999, k % 3 == 0 ? 0 : 999, k > 3));
        }
        due("3: there are 12", NONE, x.ask(1, 0, 0, false));
        due("3: there are 12, parted", NONE, x.ask(6, 999, 999, true));
        for (int k = 0; k < 12; k++) {
            int[] told = {k < 6 ? 1 : 6, k % 2 == 0 ? 0 : 999, k % 3 == 0 ? 0 : 999, k > 3 ? 1 : 0, 0, 0, 0, NONE};
            for (int what = 0; what < 8; what++) {
                due("3: of " + k + ", " + what, told[what], x.tell(k, what));
            }
        }
        x.clear();
        due("3: there are 12 after clear(), too", NONE, x.ask(1, 1, 1, false));
        TicketsDrawn y = Halls.of(1, 1, 1, 1);
        y.seat(1, 0);
        due("3: all are SEATED", NONE, y.ask(1, 1, 1, false));
        y.back(0, 1);
        due("3: all are SEATED, though none sits", NONE, y.ask(1, 1, 1, false));
        due("3: one ASK", 1, y.count(1));
        y.clear();
        due("3: nobody is SEATED any more", 1, y.ask(1, 1, 1, false));
    }

    /** Promise 4: "how many ASKS sit. NONE: no such WAY, t, all are SEATED already, or there are no ASKS." */
    private static void seat() {
        for (int way = 0; way <= 2; way++) {
            TicketsDrawn x = Halls.of(1, 2, 3, 1);
            for (int other : new int[] {-1, 3, LOW, HIGH, 256}) {
                due("4: no such WAY, " + other, NONE, x.seat(other, 0));
            }
            for (int t : new int[] {-1, 6, LOW, HIGH}) {
                due("4: no such t, " + t, NONE, x.seat(0, t));
            }
            due("4: nobody is SEATED by these", 0, x.count(10));
            due("4: nobody is in THE LINE by these", 0, x.count(3));
            due("4: how many sit by " + way, 2, x.seat(way, 5));
            due("4: who is first by " + way, way == 0 ? 2 : 0, x.at(0, 0));
            for (int again = 0; again <= 2; again++) {
                due("4: all are SEATED already, " + way + ", " + again, NONE, x.seat(again, 0));
            }
            due("4: as it was, " + way, way == 0 ? 2 : 0, x.at(0, 0));
            due("4: PAID once", 20, x.count(6));
            due("4: one in line", 1, x.count(3));
            TicketsDrawn y = Halls.of(1, 2, 0, 1);
            due("4: there are no ASKS, by " + way, NONE, y.seat(way, 0));
            due("4: not SEATED by that", 0, y.count(10));
            TicketsDrawn z = new TicketsDrawn();
            due("4: neither ASKS nor ROWS, by " + way, NONE, z.seat(way, 0));
            z.ask(1, 1, 1, true);
            due("4: one ASK is enough, by " + way, 0, z.seat(way, 0));
            due("4: SEATED by that", 1, z.count(10));
        }
    }

    /** Promise 5: "Nobody is SEATED any more, THE LINE is gone, PAID and REFUNDS are 0, DAYS 30." */
    private static void clear() {
        TicketsDrawn x = Halls.amidst();
        x.clear();
        int[] counts = {2, 4, 0, 0, 6, 0, 0, 2, 30, 0, 0};
        for (int what = 0; what < counts.length; what++) {
            due("5: count(" + what + ")", counts[what], x.count(what));
        }
        for (int ask = 0; ask < 4; ask++) {
            for (int what = 4; what <= 6; what++) {
                due("5: tell(" + ask + ", " + what + ")", 0, x.tell(ask, what));
            }
            due("5: no place in THE LINE of " + ask, NONE, x.tell(ask, 7));
            due("5: no SEAT of " + ask, NONE, x.seats(ask, 0));
            due("5: nothing back of " + ask, NONE, x.back(ask, 1));
        }
        due("5: the FAULT stays", 2, x.fault(0));
        due("5: its place stays", 5, x.fault(1));
        due("5: the tape stays", 7, Told.lengthOfTape(x));
        due("5: image 2 stays", true, x.again(2));
        due("5: and is as it was", 1, x.count(10));
        due("5: image 0 stays", true, x.again(0));
        due("5: image 1 is none", false, x.again(1));
        TicketsDrawn y = Halls.of(1, 1, 2, 1);
        for (int round = 0; round < 3; round++) {
            due("5: nobody is SEATED, so all are, " + round, 1, y.seat(1, 0));
            due("5: PAID, " + round, 10, y.tell(0, 5));
            due("5: the next sits, " + round, 1, y.back(0, 1));
            due("5: REFUND, " + round, 10, y.tell(0, 6));
            due("5: DAY 0, " + round, true, y.days(0));
            due("5: a DOOR, " + round, true, y.door(0, 0));
            y.clear();
            due("5: DAYS, " + round, 30, y.count(8));
            due("5: 31 are more, " + round, false, y.days(31));
            due("5: no REFUNDS, " + round, 0, y.tell(0, 6));
        }
    }

    /** Promise 6: "nobody is SEATED by this. NONE: as seat(), but that all may be SEATED." */
    private static void would() {
        TicketsDrawn none = Halls.of(2, 2, 0, 1);
        for (int way = 0; way <= 2; way++) {
            due("6: there are no ASKS, by " + way, NONE, none.would(way, 0));
        }
        TicketsDrawn x = Halls.of(1, 2, 3, 1);
        for (int round = 0; round < 3; round++) {
            for (int other : new int[] {-1, 3, LOW, HIGH}) {
                due("6: no such WAY, " + other, NONE, x.would(other, 0));
            }
            for (int t : new int[] {-1, 6, LOW, HIGH}) {
                due("6: no such t, " + t, NONE, x.would(0, t));
                due("6: t counts for nothing by 1, " + t, 2, x.would(1, t));
                due("6: t counts for nothing by 2, " + t, 2, x.would(2, t));
            }
            due("6: the first t", 2, x.would(0, 0));
            due("6: the last t", 2, x.would(0, 5));
            due("6: SEATED or not, as before", round == 1 ? 1 : 0, x.count(10));
            if (round == 0) {
                x.seat(1, 0);
            } else {
                x.clear();
            }
        }
    }

    /** Promise 7: "NONE: there is none such, or there are more than 6." */
    private static void share() {
        TicketsDrawn x = Halls.of(1, 1, 6, 1);
        for (int ask : new int[] {-1, 6, LOW, HIGH}) {
            due("7: there is none such, " + ask, NONE, x.share(ask));
        }
        due("7: the first of six", 120, x.share(0));
        due("7: the last of six", 120, x.share(5));
        x.seat(2, 0);
        due("7: all are SEATED", 120, x.share(5));
        due("7: nobody else sits by that", 0, x.at(0, 0));
        x.clear();
        due("7: after clear()", 120, x.share(5));
        x.image(0);
        x.ask(1, 10, 0, false);
        due("7: of seven", NONE, x.share(0));
        due("7: the seventh", NONE, x.share(6));
        x.again(0);
        due("7: of six again", 120, x.share(0));
        x.row(1, 10);
        due("7: two SEATS for six", 240, x.share(0));
        due("7: a refused ROW changes nothing", NONE, x.row(0, 10));
        due("7: two SEATS for six, still", 240, x.share(5));
        x.again(0);
        due("7: one SEAT for six again", 120, x.share(5));
    }

    /** Promise 8: "The ASK whose TURN comes at a place, by a number. NONE: there is none such (of either)." */
    private static void turn() {
        due("8: no ASKS", NONE, new TicketsDrawn().turn(0, 0));
        due("8: no ASKS, but ROWS", NONE, Halls.of(2, 2, 0, 1).turn(0, 0));
        TicketsDrawn one = Halls.of(0, 1, 1, 1);
        due("8: of one", 0, one.turn(0, 0));
        due("8: of one, number 1", NONE, one.turn(1, 0));
        due("8: of one, place 1", NONE, one.turn(0, 1));
        TicketsDrawn x = Halls.of(1, 1, 4, 1);
        for (int round = 0; round < 2; round++) {
            int t = 0;
            for (int a = 0; a < 4; a++) {
                for (int b = 0; b < 4; b++) {
                    for (int c = 0; c < 4; c++) {
                        if (a != b && a != c && b != c) {
                            int[] all = {a, b, c, 6 - a - b - c};
                            for (int place = 0; place < 4; place++) {
                                due("8: number " + t + " at " + place, all[place], x.turn(t, place));
                            }
                            t++;
                        }
                    }
                }
            }
            due("8: number 24", NONE, x.turn(24, 0));
            for (int other : new int[] {-1, LOW, HIGH}) {
                due("8: number " + other, NONE, x.turn(other, 3));
                due("8: place " + other, NONE, x.turn(23, other));
            }
            due("8: place 4", NONE, x.turn(23, 4));
            x.seat(2, 0);
        }
    }

    /** Promise 9: "The least ASK of the HEAP of an ASK. NONE: there is none such." */
    private static void heap() {
        TicketsDrawn x = new TicketsDrawn();
        due("9: no ASKS", NONE, x.heap(0));
        x.ask(1, 1, 999, false);
        due("9: of one", 0, x.heap(0));
        due("9: no second", NONE, x.heap(1));
        x.ask(1, 1, 111, false);
        x.ask(1, 1, 199, false);
        x.ask(1, 1, 191, false);
        int[] least = {0, 0, 0, 0};
        for (int round = 0; round < 2; round++) {
            for (int ask = 0; ask < 4; ask++) {
                due("9: through later ones, " + ask, least[ask], x.heap(ask));
            }
            for (int ask : new int[] {-1, 4, LOW, HIGH}) {
                due("9: there is none such, " + ask, NONE, x.heap(ask));
            }
            x.seat(1, 0);
        }
        TicketsDrawn y = new TicketsDrawn();
        for (int marks : new int[] {500, 123, 567, 124, 560}) {
            y.ask(1, 1, marks, false);
        }
        int[] two = {0, 1, 0, 1, 0};
        for (int ask = 0; ask < 5; ask++) {
            due("9: two HEAPS, " + ask, two[ask], y.heap(ask));
        }
    }

    /** Promise 10: "False, too, if there are no such two, or they are one." */
    private static void alike() {
        TicketsDrawn x = new TicketsDrawn();
        due("10: no ASKS", false, x.alike(0, 1));
        x.ask(1, 1, 5, false);
        due("10: one ASK, no other", false, x.alike(0, 1));
        due("10: one ASK, no other before", false, x.alike(1, 0));
        due("10: they are one", false, x.alike(0, 0));
        x.ask(1, 1, 5, false);
        for (int round = 0; round < 2; round++) {
            due("10: all three MARKS", true, x.alike(0, 1));
            due("10: the other way round", true, x.alike(1, 0));
            due("10: the last is one", false, x.alike(1, 1));
            for (int other : new int[] {-1, 2, LOW, HIGH}) {
                due("10: no such two, " + other, false, x.alike(0, other));
                due("10: no such two, the other way, " + other, false, x.alike(other, 1));
                due("10: nor one, " + other, false, x.alike(other, other));
            }
            x.seat(1, 0);
        }
    }

    /** Promise 11: "true; false for others, or if more are told than were left." */
    private static void days() {
        TicketsDrawn x = Halls.of(1, 1, 1, 1);
        due("11: as many as are left", true, x.days(30));
        for (int other : new int[] {31, 99, 100, -1, LOW, HIGH, 256}) {
            due("11: " + other, false, x.days(other));
        }
        due("11: still 30", 30, x.count(8));
        x.seat(1, 0);
        due("11: SEATED, one less", true, x.days(29));
        due("11: SEATED, one more", false, x.days(30));
        due("11: 29", 29, x.count(8));
        due("11: the last but one", true, x.days(1));
        due("11: two are more", false, x.days(2));
        due("11: the last", true, x.days(0));
        due("11: the last once more", true, x.days(0));
        due("11: -1", false, x.days(-1));
        due("11: one is more", false, x.days(1));
        due("11: 0", 0, x.count(8));
        x.image(0);
        x.clear();
        due("11: 30 after clear()", true, x.days(30));
        x.again(0);
        due("11: 1 is more again", false, x.days(1));
    }

    /** Promise 12: "how many it has. NONE, and nothing comes, if there would be more than 300." */
    private static void feed() {
        TicketsDrawn x = new TicketsDrawn();
        for (int k = 1; k <= 15; k++) {
            due("12: fed " + k, 20 * k, x.feed(0x20202020, 0x20202020, 0x20202020, 0x20202020, 0x20202020));
        }
        for (int k = 0; k < 3; k++) {
            due("12: more than 300", NONE, x.feed(-1, -1, -1, -1, -1));
        }
        due("12: 300 it has", 300, x.end(300));
        due("12: of blanks alone", 0, x.terms());
        due("12: the tape is empty then", 20, x.feed(0, 0, 0, 0, 0));
        x.end(0);
        for (int k = 0; k < 14; k++) {
            x.feed(0x20202020, 0x20202020, 0x20202020, 0x20202020, 0x20202020);
        }
        due("12: 280 and 20", 300, x.feed(0x6e6f6e65, 0x3b202020, 0x20202020, 0x20202020, 0x6e6f6e65));
        due("12: all twenty came", NONE, x.terms());
        due("12: an end is missing at 300", 300, x.fault(1));
    }

    /** Promise 13: "NONE if it has not so many, or n is below 0." */
    private static void end() {
        TicketsDrawn x = new TicketsDrawn();
        due("13: an empty tape, 0", 0, x.end(0));
        due("13: an empty tape, 1", NONE, x.end(1));
        x.feed(0, 0, 0, 0, 0);
        for (int other : new int[] {21, 300, 301, -1, -20, LOW, HIGH}) {
            due("13: " + other + " of 20", NONE, x.end(other));
        }
        due("13: all of them", 20, x.end(20));
        due("13: one less", 19, x.end(19));
        due("13: the one is gone", NONE, x.end(20));
        due("13: fed behind 19", 39, x.feed(0, 0, 0, 0, 0));
        due("13: none", 0, x.end(0));
        due("13: fed behind none", 20, x.feed(0, 0, 0, 0, 0));
        x.end(0);
        Check.feed(x, "none;none;", 0);
        due("13: its first five alone", 5, x.end(5));
        due("13: one LINE", 1, x.terms());
    }

    /** Promise 14: "The tape is taken (and is empty then) ..: how many LINES. NONE: a FAULT." */
    private static void terms() {
        TicketsDrawn x = new TicketsDrawn();
        due("14: an empty tape", 0, x.terms());
        for (int lines = 0; lines <= 12; lines++) {
            due("14: LINES, " + lines, lines, Check.terms(x, "whole;".repeat(lines)));
            due("14: LINES of THE TERMS, " + lines, lines, x.count(7));
            due("14: the tape is empty, " + lines, NONE, x.end(1));
        }
        due("14: a 13th", NONE, Check.terms(x, "whole;".repeat(13)));
        due("14: the tape is empty after a FAULT", NONE, x.end(1));
        due("14: THE TERMS as before", 12, x.count(7));
        due("14: taken once more, it is empty", 0, x.terms());
        due("14: no LINES then", 0, x.count(7));
        TicketsDrawn y = Halls.seated(Halls.of(1, 2, 1, 2));
        due("14: SEATED", 1, Check.terms(y, "part 10;"));
        y.back(0, 1);
        due("14: from now on", 1, y.tell(0, 6));
        Check.terms(y, "none;");
        due("14: not for what was before", 1, y.tell(0, 6));
        y.back(0, 1);
        due("14: for what comes", 1, y.tell(0, 6));
    }

    /** Promise 15: "what 0: the FAULT, 0 without, 1: its place, NONE without. NONE for another what." */
    private static void fault() {
        String[] texts = {"", "none", "part 101;", "none;".repeat(13), "none;"};
        int[] faults = {0, 1, 2, 3, 0};
        int[] places = {NONE, 4, 5, 60, NONE};
        TicketsDrawn x = new TicketsDrawn();
        for (int k = 0; k < texts.length; k++) {
            due("15: no FAULT before what is fed is taken", k == 0 ? 0 : faults[k - 1], x.fault(0));
            Check.terms(x, texts[k]);
            due("15: the FAULT of " + texts[k], faults[k], x.fault(0));
            due("15: its place", places[k], x.fault(1));
            for (int other : new int[] {-1, 2, LOW, HIGH}) {
                due("15: what " + other, NONE, x.fault(other));
            }
        }
        Check.terms(x, "#");
        due("15: a place of 0", 0, x.fault(1));
        x.feed(0, 0, 0, 0, 0);
        x.end(0);
        x.clear();
        due("15: until the next terms()", 1, x.fault(0));
    }

    /** Promise 16: "NONE: there is none such, it has not so many that may be, or n is below 1." */
    private static void back() {
        TicketsDrawn x = Halls.of(1, 6, 1, 6);
        x.ask(1, 10, 0, false);
        due("16: nobody is SEATED", NONE, x.back(0, 1));
        x.seat(1, 0);
        for (int ask : new int[] {-1, 2, 12, LOW, HIGH}) {
            due("16: there is none such, " + ask, NONE, x.back(ask, 1));
        }
        for (int n : new int[] {0, -1, -6, LOW}) {
            due("16: n is below 1, " + n, NONE, x.back(0, n));
        }
        for (int n : new int[] {7, 8, 100, HIGH}) {
            due("16: it has not so many, " + n, NONE, x.back(0, n));
        }
        due("16: one in line has none", NONE, x.back(1, 1));
        due("16: one in line, 0", NONE, x.back(1, 0));
        due("16: nothing came of these", 6, x.tell(0, 4));
        due("16: no REFUND", 0, x.tell(0, 6));
        due("16: all of them", 1, x.back(0, 6));
        due("16: it has none", NONE, x.back(0, 1));
        due("16: who sits now has one", NONE, x.back(1, 2));
        due("16: and gives it back", 0, x.back(1, 1));
        due("16: who gave all is not asked", 6, x.count(4));
        x.clear();
        due("16: nobody is SEATED any more", NONE, x.back(0, 1));
    }

    /** One after the other, with a line that ends. */
    private static void backAfterBack() {
        TicketsDrawn x = Halls.of(1, 6, 1, 6);
        Halls.addAsks(x, 4, 1, 10);
        x.seat(1, 0);
        int[] sit = {1, 1, 1, 1, 0, 0};
        for (int k = 0; k < 6; k++) {
            due("16: the line goes on, " + k, sit[k], x.back(0, 1));
            due("16: so many are in it, " + k, Math.max(0, 3 - k), x.count(3));
            due("16: REFUNDS, " + k, 10 * (k + 1), x.tell(0, 6));
            due("16: who sits there, " + k, k < 4 ? k + 1 : NONE, x.at(0, 5 - k));
            due("16: money, " + k, 60 - 10 * (k + 1) + 10 * Math.min(4, k + 1), x.count(6));
        }
        TicketsDrawn y = Halls.of(1, 6, 1, 6);
        Halls.addAsks(y, 11, 1, 10);
        y.seat(1, 0);
        due("16: six of eleven sit at once", 6, y.back(0, 6));
        due("16: five are left", 5, y.count(3));
        due("16: the first of them", 0, y.tell(7, 7));
    }

    /** Promise 17: "false: there is none such, nobody sits there, it opened, or it is not DAY 0." */
    private static void door() {
        TicketsDrawn x = Halls.of(2, 3, 2, 2);
        x.seat(1, 0);
        due("17: it is DAY 30", false, x.door(0, 0));
        x.days(1);
        due("17: it is DAY 1", false, x.door(0, 0));
        x.days(0);
        int[][] none = {{-1, 0}, {2, 0}, {6, 0}, {0, -1}, {0, 3}, {0, 12}, {LOW, 0}, {HIGH, 0}, {0, LOW}, {0, HIGH},
            {0, 100}, {1, -100}, {0, 32}, {0, -32}, {32, 0}};
        for (int[] place : none) {
            due("17: there is none such, " + place[0] + ", " + place[1], false, x.door(place[0], place[1]));
        }
        due("17: nobody sits there", false, x.door(0, 2));
        due("17: none opened by these", 0, x.count(9));
        due("17: the first", true, x.door(0, 0));
        due("17: it opened", false, x.door(0, 0));
        due("17: one", 1, x.count(9));
        due("17: in the other ROW", true, x.door(1, 1));
        due("17: it opened there", false, x.door(1, 1));
        due("17: two", 2, x.count(9));
        due("17: one is GIVEN BACK", 0, x.back(0, 1));
        due("17: nobody sits there any more", false, x.door(0, 1));
        x.clear();
        due("17: nobody is SEATED", false, x.door(0, 0));
        x.days(0);
        due("17: nor on DAY 0", false, x.door(0, 0));
    }

    /** Promise 18: "The ASK that sits on a SEAT. NONE: nobody, or there is none such." */
    private static void at() {
        TicketsDrawn x = Halls.of(2, 3, 2, 2);
        due("18: before seat()", NONE, x.at(0, 0));
        x.seat(1, 0);
        int[][] who = {{0, 0, NONE, NONE}, {1, 1, NONE, NONE}};
        for (int row = 0; row < 2; row++) {
            for (int seat = 0; seat < 4; seat++) {
                due("18: " + row + ", " + seat, who[row][seat], x.at(row, seat));
            }
        }
        int[][] none = {{-1, 0}, {2, 0}, {0, -1}, {LOW, 0}, {HIGH, 0}, {0, LOW}, {0, HIGH}, {0, 100}, {2, -100},
            {42949673, 0}, {42949672, 96}, {42949673, 4}};
        for (int[] place : none) {
            due("18: there is none such, " + place[0] + ", " + place[1], NONE, x.at(place[0], place[1]));
        }
        x.back(0, 1);
        due("18: GIVEN BACK", NONE, x.at(0, 1));
        due("18: kept", 0, x.at(0, 0));
        x.clear();
        due("18: after clear()", NONE, x.at(0, 0));
    }

    /** Promise 19: "NONE if there is none such, or for another what." */
    private static void tell() {
        TicketsDrawn x = Halls.of(1, 2, 0, 1);
        due("19: no ASKS", NONE, x.tell(0, 0));
        x.ask(2, 10, 7, false);
        x.ask(1, 12, 70, true);
        int[][] before = {{2, 10, 7, 0, 0, 0, 0, NONE}, {1, 12, 70, 1, 0, 0, 0, NONE}};
        int[][] seated = {{2, 10, 7, 0, 2, 20, 0, NONE}, {1, 12, 70, 1, 0, 0, 0, 0}};
        int[][] given = {{2, 10, 7, 0, 1, 20, 10, NONE}, {1, 12, 70, 1, 1, 10, 0, NONE}};
        int[][] all = {{2, 10, 7, 0, 0, 20, 20, NONE}, {1, 12, 70, 1, 0, 10, 10, NONE}};
        told("before", before, x);
        x.seat(1, 0);
        told("SEATED", seated, x);
        x.back(0, 1);
        told("one GIVEN BACK", given, x);
        x.back(0, 1);
        x.back(1, 1);
        told("all GIVEN BACK", all, x);
        x.clear();
        told("cleared", before, x);
    }

    private static void told(String when, int[][] want, TicketsDrawn x) {
        for (int ask = 0; ask < want.length; ask++) {
            for (int what = 0; what < 8; what++) {
                due("19: " + when + ", " + ask + ", " + what, want[ask][what], x.tell(ask, what));
            }
            for (int other : new int[] {-1, 8, LOW, HIGH}) {
                due("19: " + when + ", what " + other, NONE, x.tell(ask, other));
                due("19: " + when + ", no such ASK " + other, NONE, x.tell(other == 8 ? want.length : other, ask));
            }
        }
    }

    /** "7: its place in THE LINE (NONE)" */
    private static void tellInLine() {
        TicketsDrawn x = new TicketsDrawn();
        x.row(1, 10);
        Halls.addAsks(x, 12, 1, 10);
        for (int ask = 0; ask < 12; ask++) {
            due("19: no LINE yet, " + ask, NONE, x.tell(ask, 7));
        }
        x.seat(1, 0);
        due("19: who sits", NONE, x.tell(0, 7));
        due("19: the first place", 0, x.tell(1, 7));
        due("19: the last place", 10, x.tell(11, 7));
        x.back(0, 1);
        due("19: who gave back", NONE, x.tell(0, 7));
        due("19: who sits now", NONE, x.tell(1, 7));
        due("19: one place further", 0, x.tell(2, 7));
        due("19: the last, too", 9, x.tell(11, 7));
        due("19: no twelfth", NONE, x.tell(12, 7));
    }

    /** Promise 20: "SEAT k of an ASK, as it took them, from 0 on .. NONE: there is none such (of either)." */
    private static void seats() {
        TicketsDrawn x = new TicketsDrawn();
        due("20: no ASKS", NONE, x.seats(0, 0));
        Halls.addRows(x, 5, 1, 20);
        x.row(12, 10);
        x.ask(6, 10, 0, false);
        x.ask(6, 20, 0, false);
        x.ask(6, 20, 0, true);
        due("20: before seat()", NONE, x.seats(0, 0));
        x.seat(1, 0);
        for (int k = 0; k < 6; k++) {
            due("20: of 0, " + k, 500 + k, x.seats(0, k));
            due("20: of 1, " + k, 506 + k, x.seats(1, k));
            due("20: of one in line, " + k, NONE, x.seats(2, k));
        }
        for (int other : new int[] {-1, 6, LOW, HIGH}) {
            due("20: no such SEAT, " + other, NONE, x.seats(0, other));
        }
        for (int other : new int[] {-1, 3, LOW, HIGH}) {
            due("20: no such ASK, " + other, NONE, x.seats(other, 0));
        }
        due("20: one back, the parted one fits", 1, x.back(0, 1));
        for (int k = 0; k < 6; k++) {
            due("20: as it took them, " + k, k == 0 ? 505 : 100 * (k - 1), x.seats(2, k));
        }
        due("20: the one GIVEN BACK", NONE, x.seats(0, 5));
        due("20: the one before", 504, x.seats(0, 4));
        x.clear();
        due("20: after clear()", NONE, x.seats(0, 0));
    }

    /** Promise 21: "NONE if there is none such, or for another what." */
    private static void about() {
        TicketsDrawn x = new TicketsDrawn();
        for (int what = -1; what <= 4; what++) {
            due("21: no ROWS, " + what, NONE, x.about(0, what));
        }
        x.row(3, 5);
        x.row(12, 999);
        x.ask(2, 5, 0, false);
        int[][][] told = {{{3, 5, 3, 0}, {12, 999, 12, 0}}, {{3, 5, 1, 1}, {12, 999, 12, 0}},
            {{3, 5, 2, 0}, {12, 999, 12, 0}}, {{3, 5, 3, 0}, {12, 999, 12, 0}}};
        for (int when = 0; when < 4; when++) {
            if (when == 1) {
                x.seat(1, 0);
            } else if (when == 2) {
                x.back(0, 1);
            } else if (when == 3) {
                x.clear();
            }
            for (int row = 0; row < 2; row++) {
                for (int what = 0; what < 4; what++) {
                    due("21: " + when + ", " + row + ", " + what, told[when][row][what], x.about(row, what));
                }
                for (int other : new int[] {-1, 4, LOW, HIGH}) {
                    due("21: what " + other, NONE, x.about(row, other));
                }
            }
            for (int other : new int[] {-1, 2, LOW, HIGH}) {
                due("21: no such ROW, " + other, NONE, x.about(other, 0));
            }
        }
    }

    /** Promise 22: "NONE for another what." */
    private static void count() {
        TicketsDrawn x = Halls.amidst();
        int[] want = {2, 4, 2, 2, 2, 0, 44 - 3, 2, 0, 1, 1};
        for (int what = 0; what < want.length; what++) {
            due("22: " + what, want[what], x.count(what));
        }
        for (int other : new int[] {-1, 11, 12, LOW, HIGH}) {
            due("22: what " + other, NONE, x.count(other));
        }
    }

    /** Promise 23: "Image k (0 .. 2) is all that is told ..: true; false for another k." */
    private static void image() {
        TicketsDrawn x = new TicketsDrawn();
        for (int other : new int[] {-1, 3, 4, LOW, HIGH}) {
            due("23: another k, " + other, false, x.image(other));
            due("24: none by that, " + other, false, x.again(other));
        }
        for (int k = 0; k < 3; k++) {
            due("24: none yet, " + k, false, x.again(k));
        }
        for (int k = 0; k < 3; k++) {
            x.row(1 + k, 1);
            due("23: image " + k, true, x.image(k));
            for (int later = k + 1; later < 3; later++) {
                due("24: none such yet, " + later, false, x.again(later));
            }
        }
        x.row(9, 9);
        for (int k : new int[] {1, 0, 2, 2, 0, 1}) {
            due("24: again " + k, true, x.again(k));
            due("24: its ROWS, " + k, k + 1, x.count(0));
            due("24: no more, " + k, NONE, x.about(k + 1, 0));
        }
        x.row(7, 7);
        x.image(1);
        x.again(0);
        due("24: image 0 is as it was", 1, x.count(0));
        x.again(2);
        due("24: image 2 is as it was", 3, x.count(0));
        x.again(1);
        due("24: image 1 is the later one", 7, x.about(2, 0));
    }

    /** Promise 24: "All that is as image k has it: true; false if there is none such." */
    private static void again() {
        TicketsDrawn x = Halls.amidst();
        x.image(1);
        TicketsDrawn fresh = Halls.amidst();
        fresh.image(1);
        x.clear();
        x.row(12, 999);
        x.ask(6, 999, 999, true);
        x.seat(0, 0);
        x.days(5);
        x.end(0);
        x.terms();
        due("24: again", true, x.again(1));
        Check.same("24: all is as image 1 has it", Told.looked(fresh), Told.looked(x));
        Check.same("24: and does the same", Told.usedUp(fresh), Told.usedUp(x));
        TicketsDrawn y = Halls.amidst();
        for (int other : new int[] {1, -1, 3, LOW, HIGH}) {
            due("24: there is none such, " + other, false, y.again(other));
        }
        due("24: as it was", 1, y.count(9));
        due("24: the new object", true, y.again(0));
        int[] nothing = {0, 0, 0, 0, 0, 0, 0, 0, 30, 0, 0};
        for (int what = 0; what < nothing.length; what++) {
            due("24: of a new object, " + what, nothing[what], y.count(what));
        }
        due("24: no FAULT", 0, y.fault(0));
        due("24: no place", NONE, y.fault(1));
        due("24: an empty tape", NONE, y.end(1));
        due("24: image 2 is there still", true, y.again(2));
        due("24: THE TERMS of then", 2, y.count(7));
        due("24: DAYS of then", 30, y.count(8));
        due("24: their TESTS of then, ROW 0", 0, y.back(2, 1));
        due("24: 33 percent of 10", 3, y.tell(2, 6));
    }

    private static void imagesOfFullObjects() {
        TicketsDrawn x = Halls.fullOnDayZero();
        Check.feed(x, "none;".repeat(13), 0);
        x.terms();
        Check.feed(x, "whole;".repeat(12) + " ".repeat(228), 0);
        x.image(2);
        x.end(0);
        x.terms();
        x.clear();
        due("24: of a full one", true, x.again(2));
        due("24: the tape is full", NONE, x.feed(0, 0, 0, 0, 0));
        due("24: 300 bytes", 300, x.end(300));
        due("24: the FAULT", 3, x.fault(0));
        due("24: its place", 60, x.fault(1));
        due("24: twelve LINES on the tape", 12, x.terms());
        due("24: all sit", 12, x.count(2));
        due("24: two DOORS", 2, x.count(9));
        due("24: which opened", false, x.door(0, 5));
        due("24: no SEAT may go", NONE, x.back(0, 1));
        due("24: five may", 0, x.back(2, 5));
        due("24: once more", true, x.again(2));
        due("24: five have come back", 6, x.tell(2, 4));
        due("24: no free SEAT", 0, x.count(4));
    }

    private static final String NEVER = "if row>5:none;".repeat(11);

    /** All seats are taken from the last ask to the first; money both ways, doors in all rows. */
    private static void one(TicketsDrawn x) {
        for (int k = 0; k < 12; k++) {
            x.ask(6, 999, 999 - k, k % 2 == 0);
        }
        for (int k = 0; k < 6; k++) {
            x.row(12, 999 - k);
        }
        Check.terms(x, NEVER + "if back=1 and back<2 and back>0 and back=1:part 77;");
        x.seat(0, 479001599);
        x.back(11, 1);
        x.days(0);
        for (int row = 0; row < 6; row++) {
            x.door(row, 1);
        }
        Check.terms(x, "part 999;");
        Check.feed(x, "whole;".repeat(12) + " ".repeat(222) + "none ;", 0);
    }

    /** All are in line, the odd ones first. */
    private static void other(TicketsDrawn x) {
        for (int k = 0; k < 12; k++) {
            x.ask(6 - k % 6, k % 2, k, k % 2 == 1);
        }
        for (int k = 0; k < 6; k++) {
            x.row(2 + k, 2 + k);
        }
        Check.terms(x, "if row<1:whole;".repeat(11) + "if not size>2and not size>2and not size>2and not size>2:whole;");
        x.seat(2, 0);
        x.days(3);
        Check.terms(x, "part 50; part 50");
        Check.feed(x, "#".repeat(300), 0);
    }

    /** All were in line, in another order; now all sit, from the first on. */
    private static void third(TicketsDrawn x) {
        for (int k = 0; k < 12; k++) {
            x.ask(6, 10, 80 * k, k % 2 == 1);
        }
        x.seat(1, 0);
        x.clear();
        for (int k = 0; k < 6; k++) {
            x.row(12, 1 + k);
        }
        Check.terms(x, "none;".repeat(11) + "if not size>2and not size>2and not size>2and not size>2:whole;");
        x.seat(1, 0);
        Check.feed(x, "a".repeat(299), 0);
    }

    /** Image 1 has the one, 2 the other, 0 the third; k is the last of them that comes again. */
    private static TicketsDrawn allThree(int k) {
        TicketsDrawn x = new TicketsDrawn();
        x.image(0);
        one(x);
        x.image(1);
        x.again(0);
        other(x);
        x.image(2);
        x.again(0);
        third(x);
        x.image(0);
        x.again((k + 1) % 3);
        x.again((k + 2) % 3);
        due("24: one of three, " + k, true, x.again(k));
        return x;
    }

    /** Three objects that are unlike in all that is told: again() leaves nothing of what was. */
    private static void imagesOfObjectsUnlikeInAll() {
        TicketsDrawn a = new TicketsDrawn();
        third(a);
        Check.same("24: the third", Told.looked(a), Told.looked(allThree(0)));
        TicketsDrawn b = new TicketsDrawn();
        one(b);
        Check.same("24: the one", Told.looked(b), Told.looked(allThree(1)));
        TicketsDrawn c = new TicketsDrawn();
        other(c);
        Check.same("24: the other", Told.looked(c), Told.looked(allThree(2)));
    }

    private static void whatImagesDoThen() {
        TicketsDrawn x = allThree(1);
        due("24: the one's DOORS", 6, x.count(9));
        for (int ask = 0; ask < 12; ask++) {
            // Ask 11 sits on row 5 from seat 0 on, and gave one back; ask 10 beside it; and so on.
            int price = 994 + (11 - ask) / 2;
            int before = ask == 11 ? 994 * 77 / 100 : 0;
            due("24: the one, before of " + ask, before, x.tell(ask, 6));
            due("24: the one, back of " + ask, 0, x.back(ask, 1));
            due("24: the one, REFUND of " + ask, before + price * 77 / 100, x.tell(ask, 6));
        }
        due("24: a DOOR is in the way", NONE, x.back(11, 3));
        due("24: no DOOR is in the way", 0, x.back(10, 5));
        due("24: the one's tape, a 13th LINE", NONE, x.terms());
        due("24: the one's tape to its end", 3294, 1000 * x.fault(0) + x.fault(1));
        TicketsDrawn y = allThree(2);
        due("24: the other's tape", NONE, y.terms());
        due("24: the other's tape at its beginning", 1000, 1000 * y.fault(0) + y.fault(1));
        due("24: the other's LINE, the first", 0, y.tell(1, 7));
        due("24: the other's LINE, the last", 11, y.tell(10, 7));
        TicketsDrawn z = allThree(0);
        due("24: the third's TERMS", 0, z.back(0, 1));
        due("24: nothing", 0, z.tell(0, 6));
        due("24: the third's tape", 299, z.end(299));
    }
}
