/** What every call answers without ROWS, without ASKS, with all of both, before and after seat() and clear(). */
public final class EmptyAndFullTest {
    private static final int NONE = TicketsDrawn.NONE;

    private static void due(String what, long want, long got) {
        Check.due(what, want, got);
    }

    private static void due(String what, boolean want, boolean got) {
        Check.due(what, want, got);
    }

    public static void main(String[] args) {
        newObject();
        clearOfNothing();
        withoutRows();
        withoutAsks();
        bothFull();
        bothFullSeated();
        bothFullOnDayZero();
        bothFullCleared();
        fullWithLine();
        rowsComeAfterClear();
        Check.finish("EmptyAndFullTest");
    }

    private static void counts(String when, TicketsDrawn x, int... want) {
        for (int what = 0; what < want.length; what++) {
            due(when + ": count(" + what + ")", want[what], x.count(what));
        }
    }

    private static void about(String when, TicketsDrawn x, int row, int... want) {
        for (int what = 0; what < 4; what++) {
            due(when + ": about(" + row + ", " + what + ")", want[what], x.about(row, what));
        }
    }

    private static void tell(String when, TicketsDrawn x, int ask, int... want) {
        for (int what = 0; what < 8; what++) {
            due(when + ": tell(" + ask + ", " + what + ")", want[what], x.tell(ask, what));
        }
    }

    private static void noSuchAsk(String when, TicketsDrawn x, int ask) {
        tell(when, x, ask, NONE, NONE, NONE, NONE, NONE, NONE, NONE, NONE);
        due(when + ": no SEAT of " + ask, NONE, x.seats(ask, 0));
        due(when + ": no SHARE of " + ask, NONE, x.share(ask));
        due(when + ": no HEAP of " + ask, NONE, x.heap(ask));
        due(when + ": nothing back of " + ask, NONE, x.back(ask, 1));
        due(when + ": no TURN at " + ask, NONE, x.turn(0, ask));
        due(when + ": 0 is not ALIKE to " + ask, false, x.alike(0, ask));
        due(when + ": nor the other way, " + ask, false, x.alike(ask, 0));
    }

    private static void noSuchRow(String when, TicketsDrawn x, int row) {
        about(when, x, row, NONE, NONE, NONE, NONE);
        due(when + ": nobody in " + row, NONE, x.at(row, 0));
        due(when + ": no DOOR in " + row, false, x.door(row, 0));
    }

    private static void noWay(String when, TicketsDrawn x) {
        for (int way = -1; way <= 3; way++) {
            due(when + ": would(" + way + ")", NONE, x.would(way, 0));
            due(when + ": seat(" + way + ")", NONE, x.seat(way, 0));
        }
        due(when + ": nobody is SEATED by that", 0, x.count(10));
    }

    /** Promise 1: "No ROWS, no ASKS, no TERMS; nobody is SEATED; no images." */
    private static void newObject() {
        TicketsDrawn x = new TicketsDrawn();
        counts("new", x, 0, 0, 0, 0, 0, 0, 0, 0, 30, 0, 0, NONE);
        noSuchAsk("new", x, 0);
        noSuchRow("new", x, 0);
        noWay("new", x);
        due("new: no FAULT", 0, x.fault(0));
        due("new: no place", NONE, x.fault(1));
        due("new: an empty tape", 0, x.end(0));
        due("new: not one byte", NONE, x.end(1));
        for (int k = 0; k < 3; k++) {
            due("new: no image " + k, false, x.again(k));
        }
        due("new: an empty text", 0, x.terms());
        due("new: no LINES", 0, x.count(7));
        TicketsDrawn y = Halls.of(1, 1, 1, 1);
        y.seat(1, 0);
        y.back(0, 1);
        due("new: no TERMS, the whole PRICE", 10, y.tell(0, 6));
        TicketsDrawn one = new TicketsDrawn();
        TicketsDrawn other = new TicketsDrawn();
        one.row(1, 1);
        one.ask(1, 1, 1, true);
        one.image(0);
        counts("one object beside another", other, 0, 0, 0, 0, 0, 0, 0, 0, 30, 0, 0);
        due("one object's image is not another's", false, other.again(0));
    }

    private static void clearOfNothing() {
        TicketsDrawn x = new TicketsDrawn();
        x.clear();
        x.clear();
        Check.same("clear() of a new object", Told.looked(new TicketsDrawn()), Told.looked(x));
        x.days(3);
        x.clear();
        due("clear() with nobody SEATED: DAYS", 30, x.count(8));
    }

    private static TicketsDrawn threeAsks() {
        TicketsDrawn x = new TicketsDrawn();
        x.ask(1, 999, 111, true);
        x.ask(2, 0, 112, false);
        x.ask(6, 999, 999, true);
        return x;
    }

    private static void asksAlone(String when, TicketsDrawn x) {
        counts(when, x, 0, 3, 0, 0, 0, 0, 0, 0, 30, 0, 0);
        tell(when, x, 0, 1, 999, 111, 1, 0, 0, 0, NONE);
        tell(when, x, 1, 2, 0, 112, 0, 0, 0, 0, NONE);
        tell(when, x, 2, 6, 999, 999, 1, 0, 0, 0, NONE);
        noSuchAsk(when, x, 3);
        noSuchRow(when, x, 0);
        for (int ask = 0; ask < 3; ask++) {
            due(when + ": SHARE of " + ask, 0, x.share(ask));
            due(when + ": no SEAT of " + ask, NONE, x.seats(ask, 0));
            due(when + ": nothing back of " + ask, NONE, x.back(ask, 1));
        }
        due(when + ": ALIKE", true, x.alike(0, 1));
        due(when + ": HEAP", 0, x.heap(1));
        due(when + ": TURN", 2, x.turn(5, 0));
    }

    private static void withoutRows() {
        TicketsDrawn x = threeAsks();
        asksAlone("no ROWS", x);
        for (int way = 0; way < 3; way++) {
            due("no ROWS: would(" + way + ")", 0, x.would(way, 5));
        }
        due("no ROWS: nobody sits by seat()", 0, x.seat(0, 5));
        counts("no ROWS, SEATED", x, 0, 3, 0, 3, 0, 0, 0, 0, 30, 0, 1);
        for (int ask = 0; ask < 3; ask++) {
            due("no ROWS, SEATED: the place of " + ask, 2 - ask, x.tell(ask, 7));
            due("no ROWS, SEATED: nothing back of " + ask, NONE, x.back(ask, 1));
        }
        due("no ROWS, SEATED: already", NONE, x.seat(0, 5));
        due("no ROWS, SEATED: no ROW comes", NONE, x.row(1, 1));
        due("no ROWS, SEATED: no ASK comes", NONE, x.ask(1, 1, 1, false));
        due("no ROWS, SEATED: would()", 0, x.would(2, 0));
        noSuchRow("no ROWS, SEATED", x, 0);
        x.days(0);
        due("no ROWS, DAY 0: no DOOR", false, x.door(0, 0));
        x.clear();
        asksAlone("no ROWS, cleared", x);
        due("no ROWS, cleared: a ROW comes", 0, x.row(1, 1));
        due("no ROWS, cleared: an ASK comes", 3, x.ask(1, 1, 1, false));
    }

    private static void rowsAlone(String when, TicketsDrawn x) {
        counts(when, x, 2, 0, 0, 0, 13, 1, 0, 0, 30, 0, 0);
        about(when, x, 0, 1, 999, 1, 1);
        about(when, x, 1, 12, 1, 12, 0);
        noSuchRow(when, x, 2);
        noSuchAsk(when, x, 0);
        noWay(when, x);
        due(when + ": nobody sits", NONE, x.at(1, 11));
    }

    private static void withoutAsks() {
        TicketsDrawn x = new TicketsDrawn();
        x.row(1, 999);
        x.row(12, 1);
        rowsAlone("no ASKS", x);
        x.days(0);
        due("no ASKS, DAY 0: no DOOR", false, x.door(0, 0));
        x.clear();
        rowsAlone("no ASKS, cleared", x);
        due("no ASKS: a third ROW", 2, x.row(1, 1));
    }

    private static void bothFull() {
        TicketsDrawn x = Halls.full();
        counts("full", x, 6, 12, 0, 0, 72, 0, 0, 0, 30, 0, 0);
        about("full", x, 0, 12, 10, 12, 0);
        about("full", x, 5, 12, 10, 12, 0);
        noSuchRow("full", x, 6);
        noSuchRow("full", x, -1);
        tell("full", x, 11, 6, 10, 913, 1, 0, 0, 0, NONE);
        noSuchAsk("full", x, 12);
        noSuchAsk("full", x, -1);
        due("full: no ROW comes", NONE, x.row(1, 1));
        due("full: no ASK comes", NONE, x.ask(1, 1, 1, false));
        due("full: no SHARE of twelve", NONE, x.share(11));
        due("full: nobody at the last SEAT", NONE, x.at(5, 11));
        due("full: nothing back", NONE, x.back(11, 1));
        for (int way = 0; way < 3; way++) {
            due("full: would(" + way + ")", 12, x.would(way, 479001599));
        }
        due("full: still nobody is SEATED", 0, x.count(10));
    }

    private static void bothFullSeated() {
        TicketsDrawn x = Halls.full();
        due("full: all twelve sit", 12, x.seat(1, 0));
        counts("full, SEATED", x, 6, 12, 12, 0, 0, 0, 720, 0, 30, 0, 1);
        for (int row = 0; row < 6; row++) {
            about("full, SEATED", x, row, 12, 10, 0, 0);
            for (int seat = 0; seat < 12; seat++) {
                due("full, SEATED: at(" + row + ", " + seat + ")", 2 * row + seat / 6, x.at(row, seat));
            }
        }
        for (int ask = 0; ask < 12; ask++) {
            due("full, SEATED: the last SEAT of " + ask, 100 * (ask / 2) + ask % 2 * 6 + 5, x.seats(ask, 5));
            due("full, SEATED: no seventh of " + ask, NONE, x.seats(ask, 6));
        }
        tell("full, SEATED", x, 11, 6, 10, 913, 1, 6, 60, 0, NONE);
        due("full, SEATED: no ROW comes", NONE, x.row(1, 1));
        due("full, SEATED: no ASK comes", NONE, x.ask(1, 1, 1, false));
        due("full, SEATED: already", NONE, x.seat(2, 0));
        due("full, SEATED: no DOOR on DAY 30", false, x.door(5, 11));
        due("full, SEATED: would()", 12, x.would(0, 479001599));
        for (int ask = 0; ask < 12; ask++) {
            due("full, SEATED: all back of " + ask, 0, x.back(ask, 6));
        }
        counts("full, all GIVEN BACK", x, 6, 12, 0, 0, 72, 0, 0, 0, 30, 0, 1);
        tell("full, all GIVEN BACK", x, 11, 6, 10, 913, 1, 0, 60, 60, NONE);
    }

    private static void bothFullOnDayZero() {
        TicketsDrawn x = Halls.full();
        x.seat(1, 0);
        x.days(0);
        for (int row = 0; row < 6; row++) {
            for (int seat = 0; seat < 12; seat++) {
                due("full, DAY 0: a DOOR for " + row + ", " + seat, true, x.door(row, seat));
            }
        }
        counts("full, all DOORS", x, 6, 12, 12, 0, 0, 0, 720, 0, 0, 72, 1);
        for (int ask = 0; ask < 12; ask++) {
            due("full, all DOORS: nothing back of " + ask, NONE, x.back(ask, 1));
            due("full, all DOORS: none opens again for " + ask, false, x.door(ask / 2, ask));
        }
        x.clear();
        due("full, cleared: no DOORS", 0, x.count(9));
        x.seat(1, 0);
        for (int ask = 0; ask < 12; ask++) {
            due("full, SEATED anew: all may be GIVEN BACK by " + ask, 0, x.back(ask, 6));
        }
    }

    /** Promise 5: before seat() and after clear() one thing is told, but for what clear() does not name. */
    private static void bothFullCleared() {
        TicketsDrawn x = Halls.fullOnDayZero();
        x.back(1, 3);
        x.clear();
        Check.same("full, cleared", Told.looked(Halls.full()), Told.looked(x));
        TicketsDrawn y = Halls.fullOnDayZero();
        y.back(1, 3);
        y.clear();
        due("full, cleared: all sit anew", 12, y.seat(1, 0));
        Check.same("full, SEATED anew", Told.looked(Halls.seated(Halls.full())), Told.looked(y));
        TicketsDrawn z = Halls.fullWithLine();
        z.back(0, 1);
        z.clear();
        Check.same("a LINE, cleared", Told.looked(Halls.of(6, 1, 12, 1)), Told.looked(z));
        z.clear();
        Check.same("a LINE, cleared twice", Told.looked(Halls.of(6, 1, 12, 1)), Told.looked(z));
    }

    private static void fullWithLine() {
        TicketsDrawn x = Halls.fullWithLine();
        counts("a LINE", x, 6, 12, 6, 6, 0, 0, 60, 0, 30, 0, 1);
        for (int ask = 0; ask < 12; ask++) {
            due("a LINE: the place of " + ask, ask < 6 ? NONE : ask - 6, x.tell(ask, 7));
            due("a LINE: the SEATS of " + ask, ask < 6 ? 1 : 0, x.tell(ask, 4));
            due("a LINE: the SEAT of " + ask, ask < 6 ? 100 * ask : NONE, x.seats(ask, 0));
        }
        TicketsDrawn y = new TicketsDrawn();
        Halls.addRows(y, 6, 12, 999);
        Halls.addAsks(y, 12, 6, 998);
        due("a LINE of all twelve", 0, y.seat(0, 479001599));
        counts("a LINE of all twelve", y, 6, 12, 0, 12, 72, 0, 0, 0, 30, 0, 1);
        due("a LINE of all twelve: the first", 0, y.tell(11, 7));
        due("a LINE of all twelve: the last", 11, y.tell(0, 7));
        TicketsDrawn z = new TicketsDrawn();
        Halls.addRows(z, 6, 12, 999);
        Halls.addAsks(z, 12, 6, 999);
        z.seat(1, 0);
        due("the most money", 72 * 999, z.count(6));
    }

    private static void rowsComeAfterClear() {
        TicketsDrawn x = Halls.of(5, 2, 11, 1);
        due("one less than full: ten sit", 10, x.seat(1, 0));
        due("one less than full, SEATED: no ROW", NONE, x.row(2, 10));
        due("one less than full, SEATED: no ASK", NONE, x.ask(1, 10, 0, false));
        x.clear();
        due("one less than full, cleared: the sixth ROW", 5, x.row(2, 10));
        due("one less than full, cleared: the twelfth ASK", 11, x.ask(1, 10, 0, false));
        due("then no seventh", NONE, x.row(2, 10));
        due("then no thirteenth", NONE, x.ask(1, 10, 0, false));
        due("then twelve sit", 12, x.seat(0, 479001599));
        due("none is free", 0, x.count(4));
    }
}
