import java.io.IOException;
import java.util.List;
import java.util.function.IntUnaryOperator;

/** The document from promise 1 to its last line: each sentence quoted, what it answers and all that it changes. */
public final class DocumentPromisesTest extends Document {
    private static final int NONE = TicketsDrawn.NONE;
    private static final int LOW = Integer.MIN_VALUE;
    private static final int HIGH = Integer.MAX_VALUE;

    private DocumentPromisesTest() throws IOException {
        super("## Promise 1: A new object", null);
    }

    public static void main(String[] args) throws Exception {
        DocumentPromisesTest test = new DocumentPromisesTest();
        test.newObject();
        test.row();
        test.ask();
        test.seat();
        test.clear();
        test.would();
        test.share();
        test.turn();
        test.heap();
        test.alike();
        test.days();
        test.feed();
        test.end();
        test.terms();
        test.fault();
        test.back();
        test.door();
        test.at();
        test.tell();
        test.seats();
        test.about();
        test.count();
        test.image();
        test.again();
        test.notPromised();
        test.allIsQuoted();
        Check.finish("DocumentPromisesTest");
    }

    /** All that is told otherwise after a call, and nothing else. */
    private void changes(String what, TicketsDrawn x, Runnable call, String... want) {
        due(what + " changes", String.join("; ", want), Told.changed(x, call));
    }

    /** One call answers NONE for each of these. */
    private void none(String what, IntUnaryOperator call, int... arguments) {
        for (int argument : arguments) {
            due(what + " " + argument, NONE, call.applyAsInt(argument));
        }
    }

    private static TicketsDrawn seatedTwo() {
        return Brief.firstCome("2@10", "2<10#123 1<30#124");
    }

    // ---- Promises 1 to 5

    private void newObject() {
        says("No ROWS, no ASKS, no TERMS; nobody is SEATED; no images.");
        TicketsDrawn x = new TicketsDrawn();
        int[] counts = {0, 0, 0, 0, 0, 0, 0, 0, 30, 0, 0};
        for (int what = 0; what < counts.length; what++) {
            due("count " + what, counts[what], x.count(what));
        }
        due("the tape", 0, Told.lengthOfTape(x));
        due("FAULT", 0, x.fault(0));
        due("its place", NONE, x.fault(1));
        for (int k = 0; k < 3; k++) {
            due("image " + k, false, x.again(k));
        }
        TicketsDrawn other = seatedTwo();
        other.image(0);
        due("nothing comes from another object", 0, new TicketsDrawn().count(0));
        due("nor do images", false, new TicketsDrawn().again(0));
        due("no TERMS: whole", 10, refundOf(other));
    }

    private static int refundOf(TicketsDrawn x) {
        x.back(0, 1);
        return x.tell(0, 6);
    }

    private void row() {
        says("A ROW: its number.");
        TicketsDrawn x = Brief.hall("", "1<5");
        due("the first", 0, x.row(1, 5));
        due("the second", 1, x.row(3, 6));
        TicketsDrawn y = Brief.hall("2@10", "1<10 3<20");
        changes("a ROW", y, () -> y.row(1, 20), "count(0) 1>2", "count(4) 2>3", "count(5) 0>1",
            "about(1, 0) ->1", "about(1, 1) ->20", "about(1, 2) ->1", "about(1, 3) ->1", "at(1, 0) ->-1");
        TicketsDrawn z = Brief.hall("2@10", "3<10");
        changes("a ROW on which an ASK would sit", z, () -> z.row(3, 10), "count(0) 1>2", "count(4) 2>5",
            "share(0) 0>1", "would(0, 0) 0>1", "would(1, 0) 0>1", "would(2, 0) 0>1", "about(1, 0) ->3",
            "about(1, 1) ->10", "about(1, 2) ->3", "about(1, 3) ->0", "at(1, 0) ->-1", "at(1, 1) ->-1",
            "at(1, 2) ->-1");

        says("NONE: there are 6, other numbers, or all are SEATED.");
        TicketsDrawn full = Halls.of(6, 1, 0, 1);
        changes("a seventh", full, () -> due("a seventh", NONE, full.row(1, 1)));
        TicketsDrawn less = Halls.of(5, 1, 1, 1);
        none("SEATS", seats -> less.row(seats, 5), 0, -1, 13, LOW, HIGH);
        none("PRICE", price -> less.row(5, price), 0, -1, 1000, LOW, HIGH);
        less.seat(1, 0);
        changes("SEATED", less, () -> due("SEATED", NONE, less.row(1, 1)));
        less.clear();
        due("cleared", 5, less.row(1, 1));
    }

    private void ask() {
        says("An ASK; marks: 100 times the first one, 10 times the second one, and the third: its number.");
        TicketsDrawn x = Brief.hall("2@10", "2<10#123");
        changes("an ASK", x, () -> due("its number", 1, x.ask(1, 30, 173, true)), "count(1) 1>2",
            "alike(0, 1) 0>1", "tell(1, 4) ->0", "tell(1, 0) ->1", "tell(1, 1) ->30", "tell(1, 2) ->173",
            "tell(1, 3) ->1", "tell(1, 5) ->0", "tell(1, 6) ->0", "tell(1, 7) ->-1", "heap(1) ->0", "share(1) ->1",
            "turn(0, 1) ->1");
        TicketsDrawn y = Brief.hall("", "1<1#123 1<1#923 1<1#193 1<1#129 1<1#321 1<1#0");
        due("the first is another", true, y.alike(0, 1));
        due("the second", true, y.alike(0, 2));
        due("the third", true, y.alike(0, 3));
        due("the first and the third", false, y.alike(0, 4));

        says("NONE: there are 12, other numbers, or all are SEATED.");
        TicketsDrawn full = Halls.of(1, 1, 12, 1);
        changes("a thirteenth", full, () -> due("a thirteenth", NONE, full.ask(1, 1, 1, true)));
        TicketsDrawn less = Halls.of(1, 1, 11, 1);
        none("SIZE", size -> less.ask(size, 5, 5, true), 0, -1, 7, LOW, HIGH);
        none("MOST", most -> less.ask(1, most, 5, true), -1, 1000, LOW, HIGH);
        none("marks", marks -> less.ask(1, 5, marks, true), -1, 1000, LOW, HIGH);
        less.seat(1, 0);
        due("SEATED", NONE, less.ask(1, 1, 1, true));
        less.clear();
        due("cleared", 11, less.ask(1, 1, 1, true));
    }

    private void seat() {
        says("All are SEATED by a WAY (t counts for nothing but of WAY 0): how many ASKS sit.");
        TicketsDrawn x = Brief.hall("2@10", "2<10#123 1<30#124");
        changes("seat()", x, () -> due("one sits", 1, x.seat(1, 0)), "count(2) 0>1", "count(3) 0>1", "count(4) 2>0",
            "count(6) 0>20", "count(10) 0>1", "about(0, 2) 2>0", "at(0, 0) -1>0", "at(0, 1) -1>0", "tell(0, 4) 0>2",
            "tell(0, 5) 0>20", "tell(1, 7) -1>0", "seats(0, 0) ->0", "seats(0, 1) ->1");
        for (int t : new int[] {-1, 2, LOW, HIGH}) {
            due("WAY 1, t " + t, "aa", Brief.seen(seatedBy(1, t)));
            due("WAY 2, t " + t, "b.", Brief.seen(seatedBy(2, t)));
        }
        due("WAY 0, t 0", "aa", Brief.seen(seatedBy(0, 0)));
        due("WAY 0, t 1", "b.", Brief.seen(seatedBy(0, 1)));
        due("all sit", 3, Brief.hall("4@10", "1<10 1<10 1<10").seat(2, 0));
        due("nobody sits", 0, Brief.hall("4@10", "1<9 5<10p").seat(1, 0));

        says("NONE: no such WAY, t, all are SEATED already, or there are no ASKS.");
        TicketsDrawn y = Brief.hall("2@10", "2<10 1<30");
        none("WAY", way -> y.seat(way, 0), -1, 3, LOW, HIGH);
        none("t", t -> y.seat(0, t), -1, 2, LOW, HIGH);
        due("nobody is SEATED by these", 0, y.count(10));
        due("the last t", 1, y.seat(0, 1));
        changes("already", y, () -> none("already", way -> y.seat(way, 0), 0, 1, 2));
        none("no ASKS", way -> Brief.hall("2@10", "").seat(way, 0), 0, 1, 2);
    }

    private static TicketsDrawn seatedBy(int way, int t) {
        TicketsDrawn x = Brief.hall("2@10", "2<10 1<30");
        x.seat(way, t);
        return x;
    }

    private void clear() {
        says("Nobody is SEATED any more, THE LINE is gone, PAID and REFUNDS are 0, DAYS 30.");
        TicketsDrawn x = Brief.hall("3@10", "3<10#123 2<30#456");
        Check.terms(x, "part 50;");
        x.seat(1, 0);
        x.days(4);
        x.back(0, 1);
        changes("clear()", x, x::clear, "count(2) 1>0", "count(3) 1>0", "count(4) 1>3", "count(5) 1>0", "count(6) 25>0",
            "count(8) 4>30", "count(10) 1>0", "about(0, 2) 1>3", "about(0, 3) 1>0", "at(0, 0) 0>-1", "at(0, 1) 0>-1",
            "tell(0, 4) 2>0", "tell(0, 5) 30>0", "tell(0, 6) 5>0", "seats(0, 0) 0>-", "seats(0, 1) 1>-",
            "tell(1, 7) 0>-1");
        changes("once more", x, x::clear);
        due("anew", 1, x.seat(2, 0));
        due("by another WAY", "bb.", Brief.seen(x));
        due("PAID anew", "0 20", Brief.ofAll(x, 5));
        x.back(1, 1);
        due("THE TERMS stay", 5, x.tell(1, 6));
        TicketsDrawn y = seatedTwo();
        y.days(0);
        y.door(0, 1);
        y.clear();
        y.seat(1, 0);
        due("no DOOR has opened for who sits now", 0, y.count(9));
        due("all may be GIVEN BACK", 1, y.back(0, 2));
        TicketsDrawn unseated = new TicketsDrawn();
        unseated.days(3);
        unseated.clear();
        due("DAYS, though nobody was SEATED", 30, unseated.count(8));
    }

    // ---- Promises 6 to 10

    private void would() {
        says("How many ASKS would sit by a WAY, nobody is SEATED by this.");
        TicketsDrawn x = Brief.hall("2@10", "2<10 1<30 1<20");
        // Who comes first of a and the others tells: a alone, or b and c.
        int[] byNumber = {1, 1, 2, 2, 2, 2};
        for (int t = 0; t < 6; t++) {
            due("number " + t, byNumber[t], x.would(0, t));
        }
        changes("would()", x, () -> due("first come", 1, x.would(1, HIGH)));
        changes("would()", x, () -> due("who pays most", 2, x.would(2, LOW)));

        says("NONE: as seat(), but that all may be SEATED.");
        x.seat(1, 0);
        changes("SEATED", x, () -> due("SEATED", 2, x.would(2, 0)));
        due("SEATED, by a number", 2, x.would(0, 5));
        none("WAY", way -> x.would(way, 0), -1, 3, LOW, HIGH);
        none("t", t -> x.would(0, t), -1, 6, LOW, HIGH);
        none("no ASKS", way -> Brief.hall("2@10", "").would(way, 0), 0, 1, 2);
    }

    private void share() {
        says("SHARE of an ASK.");
        TicketsDrawn x = Brief.hall("2@10", "2<10 1<30 1<20");
        changes("share()", x, () -> due("a, if it comes first", 2, x.share(0)));
        due("b, if a does not", 4, x.share(1));
        due("c, if a does not", 4, x.share(2));
        x.seat(1, 0);
        due("SEATED", 4, x.share(2));
        x.clear();
        x.row(2, 10);
        due("a ROW more: unless b and c come before", 6, x.share(0));

        says("NONE: there is none such, or there are more than 6.");
        none("no such ASK", x::share, -1, 3, LOW, HIGH);
        none("no ASKS", new TicketsDrawn()::share, 0);
        TicketsDrawn six = Halls.of(1, 1, 6, 1);
        due("six", 120, six.share(0));
        six.ask(1, 10, 0, false);
        none("seven", six::share, 0, 6, 7);
    }

    private void turn() {
        says("The ASK whose TURN comes at a place, by a number.");
        TicketsDrawn x = Brief.hall("", "1<1 1<2 1<3");
        int[][] all = {{0, 1, 2}, {0, 2, 1}, {1, 0, 2}, {1, 2, 0}, {2, 0, 1}, {2, 1, 0}};
        for (int t = 0; t < 6; t++) {
            for (int place = 0; place < 3; place++) {
                due(t + " at " + place, all[t][place], x.turn(t, place));
            }
        }
        changes("turn()", x, () -> x.turn(5, 0));
        x.seat(1, 0);
        due("SEATED", 2, x.turn(5, 0));

        says("NONE: there is none such (of either).");
        none("t", t -> x.turn(t, 0), -1, 6, LOW, HIGH);
        none("place", place -> x.turn(0, place), -1, 3, LOW, HIGH);
        none("no ASKS", t -> new TicketsDrawn().turn(t, 0), -1, 0, 1);
    }

    private void heap() {
        says("The least ASK of the HEAP of an ASK.");
        TicketsDrawn x = Brief.hall("", "1<1#900 1<1#123 1<1#555 1<1#453 1<1#423");
        int[] least = {0, 1, 2, 1, 1};
        for (int ask = 0; ask < 5; ask++) {
            due("of " + ask, least[ask], x.heap(ask));
        }
        changes("heap()", x, () -> x.heap(4));
        says("NONE: there is none such.");
        none("ASK", x::heap, -1, 5, 12, LOW, HIGH);
        none("no ASKS", new TicketsDrawn()::heap, 0);
    }

    private void alike() {
        says("Whether two ASKS are ALIKE.");
        TicketsDrawn x = Brief.hall("", "1<1#123 1<1#124 1<1#194 1<1#123");
        due("two of three", true, x.alike(0, 1));
        due("the other way", true, x.alike(1, 0));
        due("one of three", false, x.alike(0, 2));
        due("three of three", true, x.alike(0, 3));
        changes("alike()", x, () -> x.alike(0, 3));
        says("False, too, if there are no such two, or they are one.");
        due("one", false, x.alike(0, 0));
        for (int other : new int[] {-1, 4, 12, LOW, HIGH}) {
            due("no " + other, false, x.alike(0, other));
            due("no " + other + " before", false, x.alike(other, 0));
            due("no " + other + " twice", false, x.alike(other, other));
        }
    }

    // ---- Promises 11 to 15

    private void days() {
        says("So many DAYS are left now: true; false for others, or if more are told than were left.");
        TicketsDrawn x = seatedTwo();
        changes("days()", x, () -> due("7", true, x.days(7)), "count(8) 30>7");
        changes("as many", x, () -> due("7 once more", true, x.days(7)));
        changes("more", x, () -> due("8", false, x.days(8)));
        for (int left : new int[] {-1, 30, 99, 100, LOW, HIGH}) {
            due("not " + left, false, x.days(left));
        }
        changes("0", x, () -> due("0", true, x.days(0)), "count(8) 7>0");
        due("1 is more than 0", false, x.days(1));
        due("still 0", true, x.days(0));
        due("before seat(), too", true, new TicketsDrawn().days(29));
    }

    private void feed() {
        says("The tape: twenty bytes come behind it, of each number the highest first: how many it has.");
        TicketsDrawn x = new TicketsDrawn();
        // "none;part 7;" and blanks, then "whole;" and what is no text.
        changes("feed()", x, () -> due("twenty", 20,
            x.feed(0x6e6f6e65, 0x3b706172, 0x7420373b, 0x20202020, 0x2020200a)), "the tape's length 0>20");
        due("forty", 40, x.feed(0x77686f6c, 0x653b2020, 0x20202020, 0x20202020, 0x2020ff80));
        due("a FAULT", NONE, x.terms());
        due("the byte 255 stands at 38", 38, x.fault(1));
        x.feed(0x6e6f6e65, 0x3b706172, 0x7420373b, 0x20202020, 0x2020200a);
        due("behind what is there", 40, x.feed(0x77686f6c, 0x653b2020, 0x20202020, 0x20202020, 0x20202020));
        due("three LINES", 3, x.terms());
        due("behind seven", 27, fedBehind(7));

        says("NONE, and nothing comes, if there would be more than 300.");
        due("280 and 20", 300, fedBehind(280));
        due("281 and 20", NONE, fedBehind(281));
        due("300 and 20", NONE, fedBehind(300));
        TicketsDrawn full = Halls.withTape(281);
        changes("too many", full, () -> due("too many", NONE, full.feed(-1, -1, -1, -1, -1)));
        due("nothing came", 1, full.terms());
    }

    private static int fedBehind(int length) {
        TicketsDrawn x = Halls.withTape(300);
        x.end(length);
        return x.feed(0, 0, 0, 0, 0);
    }

    private void end() {
        says("The tape has its first n bytes alone: n.");
        TicketsDrawn x = new TicketsDrawn();
        Check.feed(x, "none;whole;?", 0);
        changes("end()", x, () -> due("eleven of twelve", 11, x.end(11)), "the tape's length 12>11");
        changes("all", x, () -> due("as many as it has", 11, x.end(11)));
        due("the first ones", 2, x.terms());
        Check.feed(x, "none;whole;?", 0);
        due("five", 5, x.end(5));
        Check.feed(x, "part 7;", 5);
        due("others come behind those", 2, x.terms());
        due("none", 0, x.end(0));

        for (String text : new String[] {"none|x", "part 100|0", "part|s", "if row<1|1:none;"}) {
            int cut = text.indexOf('|');
            Check.feed(x, text.replace("|", ""), 0);
            x.end(cut);
            due("a FAULT of " + text, NONE, x.terms());
            due("no byte behind it counts, " + text, cut, x.fault(1));
        }

        says("NONE if it has not so many, or n is below 0.");
        Check.feed(x, "none;", 0);
        changes("not so many", x, () -> none("n", x::end, 6, 20, 300, 301, HIGH, -1, LOW));
        due("as it was", 1, x.terms());
    }

    private void terms() {
        says("The tape is taken (and is empty then), as THE TERMS from now on: how many LINES.");
        TicketsDrawn x = Brief.firstCome("6@10", "6<10");
        Check.feed(x, "if back=2:part 70;none;", 0);
        changes("terms()", x, () -> due("two LINES", 2, x.terms()), "count(7) 0>2", "the tape's length 23>0");
        x.back(0, 2);
        due("from now on", 14, x.tell(0, 6));
        due("others", 1, Check.terms(x, "part 50;"));
        x.back(0, 2);
        due("from then on", 14 + 10, x.tell(0, 6));
        changes("an empty tape", x, () -> due("no LINES", 0, x.terms()), "count(7) 1>0");
        x.back(0, 1);
        due("whole again", 14 + 10 + 10, x.tell(0, 6));

        says("NONE: a FAULT.");
        Check.terms(x, "part 10;");
        Check.feed(x, "part 50;none", 0);
        changes("a FAULT", x, () -> due("a FAULT", NONE, x.terms()), "fault(0) 0>1", "fault(1) -1>12",
            "the tape's length 12>0");
        x.back(0, 1);
        due("THE TERMS from before", 34 + 1, x.tell(0, 6));
        due("FAULT 2", NONE, Check.terms(x, "part 101;"));
        due("FAULT 3", NONE, Check.terms(x, "none;".repeat(13)));
    }

    private void fault() {
        says("Of the latest terms(), what 0: the FAULT, 0 without, 1: its place, NONE without.");
        TicketsDrawn x = new TicketsDrawn();
        String[] texts = {"none;none", "part 101;", "none;", "none;".repeat(13), "", "?"};
        int[] faults = {1, 2, 0, 3, 0, 1};
        int[] places = {9, 5, NONE, 60, NONE, 0};
        for (int k = 0; k < texts.length; k++) {
            Check.terms(x, texts[k]);
            due("the FAULT of " + texts[k], faults[k], x.fault(0));
            due("its place in " + texts[k], places[k], x.fault(1));
        }
        changes("fault()", x, () -> x.fault(0));
        Check.feed(x, "none;", 0);
        x.clear();
        due("until the next terms()", 1, x.fault(0));
        says("NONE for another what.");
        none("what", x::fault, -1, 2, 3, LOW, HIGH);
    }

    // ---- Promises 16 to 18

    private void back() {
        says("So many SEATS of an ASK are GIVEN BACK: how many of THE LINE sit by that.");
        TicketsDrawn x = Brief.hall("3@10", "3<10#123 1<30#456 3<10#789 1<10#100");
        Check.terms(x, "part 25;");
        x.seat(1, 0);
        changes("two SEATS", x, () -> due("two sit", 2, x.back(0, 2)), "count(2) 1>3", "count(3) 3>1", "count(6) 30>46",
            "at(0, 1) 0>1", "at(0, 2) 0>3", "tell(0, 4) 3>1", "tell(0, 6) 0>4", "seats(0, 1) 1>-", "seats(0, 2) 2>-",
            "tell(1, 4) 0>1", "tell(1, 5) 0>10", "tell(1, 7) 0>-1", "tell(2, 7) 1>0", "tell(3, 4) 0>1",
            "tell(3, 5) 0>10", "tell(3, 7) 2>-1", "seats(1, 0) ->1", "seats(3, 0) ->2");
        changes("nobody fits", x, () -> due("nobody fits", 0, x.back(1, 1)), "count(2) 3>2", "count(4) 0>1",
            "count(5) 0>1", "count(6) 46>44", "about(0, 2) 0>1", "about(0, 3) 0>1", "at(0, 1) 1>-1", "tell(1, 4) 1>0",
            "tell(1, 6) 0>2", "seats(1, 0) 1>-");

        says("NONE: there is none such, it has not so many that may be, or n is below 1.");
        changes("refused", x, () -> {
            none("no such ASK", ask -> x.back(ask, 1), -1, 4, 12, LOW, HIGH);
            none("who gave all", n -> x.back(1, n), 1, 2);
            none("who is in THE LINE", n -> x.back(2, n), 1, 3);
            none("who has one", n -> x.back(0, n), 2, 3, HIGH);
            none("n", n -> x.back(0, n), 0, -1, LOW);
        });
        TicketsDrawn y = Brief.firstCome("4@10", "3<10 1<10");
        y.days(0);
        y.door(0, 1);
        changes("behind a DOOR", y, () -> none("behind a DOOR", n -> y.back(0, n), 2, 3));
        due("who has no DOOR", 0, y.back(1, 1));
        due("what it took later", 0, y.back(0, 1));
        none("not SEATED", n -> Brief.hall("3@10", "3<10").back(0, n), 1, 3);
    }

    private void door() {
        says("A DOOR opens for a SEAT: true;");
        TicketsDrawn x = Brief.hall("1@20 3@10", "2<10 1<5");
        x.seat(1, 0);
        due("early", false, x.door(1, 0));
        x.days(0);
        changes("door()", x, () -> due("it opens", true, x.door(1, 1)), "count(9) 0>1");
        changes("another", x, () -> due("another", true, x.door(1, 0)), "count(9) 1>2");

        says("false: there is none such, nobody sits there, it opened, or it is not DAY 0.");
        changes("refused", x, () -> {
            int[][] places = {{-1, 0}, {2, 0}, {1, -1}, {1, 3}, {0, 1}, {0, 100}, {LOW, HIGH}, {HIGH, LOW}};
            for (int[] place : places) {
                due("none such", false, x.door(place[0], place[1]));
            }
            due("nobody sits on 2", false, x.door(1, 2));
            due("nobody sits in ROW 0", false, x.door(0, 0));
            due("it opened", false, x.door(1, 1));
        });
        TicketsDrawn y = seatedTwo();
        for (int left : new int[] {30, 29, 1}) {
            y.days(left);
            due("DAY " + left, false, y.door(0, 0));
        }
        y.days(0);
        due("DAY 0", true, y.door(0, 0));
        TicketsDrawn unseated = Brief.hall("1@1", "1<1");
        unseated.days(0);
        due("not SEATED", false, unseated.door(0, 0));
    }

    private void at() {
        says("The ASK that sits on a SEAT.");
        TicketsDrawn x = Brief.firstCome("2@10 3@11", "1<9 3<11 1<10");
        due("b", 1, x.at(1, 0));
        due("b, too", 1, x.at(1, 2));
        due("c", 2, x.at(0, 0));
        changes("at()", x, () -> x.at(0, 0));
        says("NONE: nobody, or there is none such.");
        due("nobody", NONE, x.at(0, 1));
        x.back(1, 1);
        due("nobody any more", NONE, x.at(1, 2));
        none("SEAT", seat -> x.at(0, seat), -1, 2, 100, LOW, HIGH);
        none("ROW", row -> x.at(row, 0), -1, 2, 6, LOW, HIGH);
        none("SEAT of another ROW", row -> x.at(row, 100 - 100 * row), 0, 2);
    }

    // ---- Promises 19 to 22

    private void tell() {
        says("Of an ASK, what 0: SIZE, 1: MOST, 2: marks, 3: 1 if it may be parted, else 0, 4: SEATS that it has,"
            + " 5: PAID, 6: REFUNDS, 7: its place in THE LINE (NONE).");
        TicketsDrawn x = Brief.hall("4@10", "3<12p#7 2<10#450 6<999p#999");
        Check.terms(x, "part 33;");
        int[][] before = {{3, 12, 7, 1, 0, 0, 0, NONE}, {2, 10, 450, 0, 0, 0, 0, NONE},
            {6, 999, 999, 1, 0, 0, 0, NONE}};
        int[][] seated = {{3, 12, 7, 1, 3, 30, 0, NONE}, {2, 10, 450, 0, 0, 0, 0, 0}, {6, 999, 999, 1, 0, 0, 0, 1}};
        int[][] then = {{3, 12, 7, 1, 2, 30, 3, NONE}, {2, 10, 450, 0, 2, 20, 0, NONE}, {6, 999, 999, 1, 0, 0, 0, 0}};
        tellings("before", x, before);
        x.seat(1, 0);
        tellings("SEATED", x, seated);
        x.back(0, 1);
        tellings("one GIVEN BACK", x, then);
        changes("tell()", x, () -> x.tell(0, 5));
        says("NONE if there is none such, or for another what.");
        none("ASK", ask -> x.tell(ask, 0), -1, 3, 12, LOW, HIGH);
        none("what", what -> x.tell(0, what), -1, 8, LOW, HIGH);
    }

    private void tellings(String when, TicketsDrawn x, int[][] want) {
        for (int ask = 0; ask < want.length; ask++) {
            for (int what = 0; what < want[ask].length; what++) {
                due(when + ", " + what + " of " + ask, want[ask][what], x.tell(ask, what));
            }
        }
    }

    private void seats() {
        says("SEAT k of an ASK, as it took them, from 0 on: 100 times the ROW, and the SEAT.");
        TicketsDrawn x = Brief.firstCome("2@10 2@10 1@10 2@10 2@10 12@99", "3<10p 6<99");
        due("the HOLE, then one ROW", "200 0 1", Brief.taken(x, 0));
        due("side by side in ROW 5", "500 501 502 503 504 505", Brief.taken(x, 1));
        changes("seats()", x, () -> x.seats(0, 0));
        says("NONE: there is none such (of either).");
        none("k", k -> x.seats(0, k), -1, 3, 6, LOW, HIGH);
        none("ASK", ask -> x.seats(ask, 0), -1, 2, 12, LOW, HIGH);
        x.back(0, 2);
        none("GIVEN BACK", k -> x.seats(0, k), 1, 2);
        due("what it has", 200, x.seats(0, 0));
        x.clear();
        none("cleared", k -> x.seats(0, k), 0);
    }

    private void about() {
        says("Of a ROW, what 0: SEATS, 1: PRICE, 2: free ones, 3: HOLES.");
        TicketsDrawn x = Brief.hall("4@10 1@999", "3<10 1<10");
        int[][] before = {{4, 10, 4, 0}, {1, 999, 1, 1}};
        int[][] seated = {{4, 10, 0, 0}, {1, 999, 1, 1}};
        int[][] then = {{4, 10, 1, 1}, {1, 999, 1, 1}};
        abouts("before", x, before);
        x.seat(1, 0);
        abouts("SEATED", x, seated);
        x.back(0, 1);
        abouts("one GIVEN BACK", x, then);
        changes("about()", x, () -> x.about(0, 2));
        says("NONE if there is none such, or for another what.");
        none("ROW", row -> x.about(row, 0), -1, 2, 6, LOW, HIGH);
        none("what", what -> x.about(0, what), -1, 4, LOW, HIGH);
    }

    private void abouts(String when, TicketsDrawn x, int[][] want) {
        for (int row = 0; row < want.length; row++) {
            for (int what = 0; what < want[row].length; what++) {
                due(when + ", " + what + " of " + row, want[row][what], x.about(row, what));
            }
        }
    }

    private void count() {
        says("How many: 0 ROWS, 1 ASKS, 2 of them that sit, 3 in THE LINE, 4 free SEATS, 5 HOLES, 6 PAID less REFUNDS,"
            + " 7 LINES of THE TERMS, 8 DAYS, 9 SEATS for which a DOOR opened, 10: 1 if all are SEATED, else 0.");
        TicketsDrawn x = Brief.hall("4@10 3@9 1@50", "4<10 2<9 3<10 5<10p 1<60");
        Check.terms(x, "if row=0:part 30;none;");
        counts("before", x, 3, 5, 0, 0, 8, 1, 0, 2, 30, 0, 0);
        x.seat(1, 0);
        due("who sits", "aaaa|bbe|.", Brief.seen(x));
        counts("SEATED", x, 3, 5, 3, 2, 1, 1, 40 + 18 + 9, 2, 30, 0, 1);
        x.days(0);
        x.door(0, 0);
        x.door(1, 0);
        x.back(0, 3);
        due("c sits", "accc|bbe|.", Brief.seen(x));
        counts("three GIVEN BACK", x, 3, 5, 4, 1, 1, 1, 67 - 9 + 30, 2, 0, 2, 1);
        changes("count()", x, () -> x.count(6));
        says("NONE for another what.");
        none("what", x::count, -1, 11, LOW, HIGH);
    }

    private void counts(String when, TicketsDrawn x, int... want) {
        for (int what = 0; what < want.length; what++) {
            due(when + ", " + what, want[what], x.count(what));
        }
    }

    // ---- Promises 23 and 24, and what is not promised

    private void image() {
        says("Image k (0 .. 2) is all that is told (the tape, the FAULT, too), as it is now: true;"
            + " false for another k.");
        for (int k : new int[] {0, 1, 2}) {
            TicketsDrawn x = Halls.amidst();
            changes("image()", x, () -> due("image " + k, true, x.image(k)));
        }
        for (int k : new int[] {-1, 3, LOW, HIGH}) {
            TicketsDrawn x = Halls.amidst();
            changes("no image " + k, x, () -> due("no image " + k, false, x.image(k)));
        }
        for (int k = 0; k < 3; k++) {
            TicketsDrawn y = Halls.amidst();
            y.image(k);
            changeAll(y);
            y.again(k);
            Check.same("image " + k + " is all that is told", Told.looked(Halls.amidst()), Told.looked(y));
            due("the tape's text, by image " + k, 1, taken(y));
        }
        imagesOfUnlike();
        TicketsDrawn unlike = new TicketsDrawn();
        for (int k = 0; k < 3; k++) {
            unlike.row(1 + k, 1);
            unlike.image(k);
        }
        for (int k = 0; k < 3; k++) {
            unlike.again(k);
            due("each its own, " + k, k + 1, unlike.count(0));
        }
        unlike.again(2);
        unlike.image(0);
        unlike.again(1);
        unlike.again(0);
        due("the latest of its number", 3, unlike.count(0));
    }

    /** Of two objects in one: what is told of each by its image is what is told of one that never was the other. */
    private void imagesOfUnlike() {
        TicketsDrawn x = new TicketsDrawn();
        x.image(2);
        seatOneKind(x);
        x.image(0);
        x.again(2);
        seatOtherKind(x);
        x.image(1);
        x.share(0);
        x.again(0);
        TicketsDrawn one = new TicketsDrawn();
        seatOneKind(one);
        due("one kind", "aa..|bb|c", Brief.seen(one));
        Check.same("image 0, of one kind", Told.looked(one), Told.looked(x));
        x.share(0);
        x.again(1);
        TicketsDrawn other = new TicketsDrawn();
        seatOtherKind(other);
        due("another", "b..dd|...|a", Brief.seen(other));
        Check.same("image 1, of another", Told.looked(other), Told.looked(x));
        Check.same("image 1, used up", usedUpButImages(other), usedUpButImages(x));
    }

    /** The images are not the same: what is told of them is left out. */
    private static List<String> usedUpButImages(TicketsDrawn x) {
        return Told.usedUp(x).stream().takeWhile(line -> !line.startsWith("again")).toList();
    }

    private static void seatOneKind(TicketsDrawn x) {
        Brief.addRows(x, "4@10 2@20 1@5");
        Brief.addAsks(x, "4<30p#999 2<20p#456 1<10#124 3<20#123");
        Check.terms(x, "if back=1:part 10;".repeat(3));
        x.seat(2, 0);
        x.back(0, 2);
    }

    private static void seatOtherKind(TicketsDrawn x) {
        Brief.addRows(x, "5@9 3@11 1@7");
        Brief.addAsks(x, "1<7p#777 3<11#778 5<9#123 2<9p#321");
        Check.terms(x, "if not row=1 and size<4:part 70;none;");
        Check.feed(x, "none;", 0);
        x.seat(1, 0);
        x.days(0);
        x.door(2, 0);
        x.back(1, 2);
    }

    /** The tape has "part 50": a sign makes a text of it. */
    private static int taken(TicketsDrawn x) {
        Check.feed(x, ";", 7);
        return x.terms();
    }

    private static void changeAll(TicketsDrawn x) {
        Check.terms(x, "whole;none;part 3;");
        Check.feed(x, "?????????", 0);
        x.clear();
        x.row(9, 99);
        x.ask(4, 500, 777, true);
        x.seat(1, 0);
        x.days(12);
        x.back(0, 1);
    }

    private void again() {
        says("All that is as image k has it: true; false if there is none such.");
        for (int k : new int[] {1, -1, 3, LOW, HIGH}) {
            TicketsDrawn without = Halls.amidst();
            changes("none such, " + k, without, () -> due("none such, " + k, false, without.again(k)));
        }
        TicketsDrawn x = Halls.amidst();
        due("image 0", true, x.again(0));
        Check.same("it was taken of a new object", Told.looked(new TicketsDrawn()), Told.looked(x));
        due("image 2 is still there", true, x.again(2));
        due("all are SEATED there", 1, x.count(10));
        due("once more", true, x.again(0));
        due("nobody is there", 0, x.count(10));
        due("an image is not used up, nor changed", true, x.again(2));
        x.clear();
        due("by what comes behind", true, x.again(2));
        due("all are SEATED there", 1, x.count(10));
        due("none of 1 yet", false, x.again(1));
    }

    private void notPromised() {
        says("How the state is held inside the object is free, as are the speed of each call, the text of toString and"
            + " the behaviour of equals and hashCode.");
        says("Use of one object from several threads at once is not promised to be safe.");
        says("Nothing is promised beyond the answers and state changes described above, and nothing about an object"
            + " after its 512th call.");
    }
}
