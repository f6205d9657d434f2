/** The document's Terms 1, 2, 4 and the first half of 3: each limit, the last that is taken and the first that is not. */
public final class EdgesOfTermsTest {
    private static final int NONE = TicketsDrawn.NONE;

    private static void due(String what, long want, long got) {
        Check.due(what, want, got);
    }

    private static void due(String what, boolean want, boolean got) {
        Check.due(what, want, got);
    }

    public static void main(String[] args) {
        rowsAtMostSix();
        seatsOfRows();
        prices();
        asksAtMostTwelve();
        sizes();
        mosts();
        marks();
        holes();
        blocks();
        blocksPastTakenSeats();
        theBlockByHoles();
        theBlockByHolesLessThoseBefore();
        theBlockBesideHoles();
        theBlockAmongEqualHoles();
        turnsOfParted();
        numbersOfTurns();
        ways();
        sharesOfAtMostSix();
        alikes();
        heaps();
        seatedUntilClear();
        theLine();
        daysLeft();
        givenBack();
        theLineIsAsked();
        doorsOnDayZero();
        doorsAndSeatsGivenBack();
        doorsOfTheNext();
        Check.finish("EdgesOfTermsTest");
    }

    // ---- Terms 1

    /** "ROWS, at most 6, from 0 on" */
    private static void rowsAtMostSix() {
        TicketsDrawn x = new TicketsDrawn();
        for (int r = 0; r < 6; r++) {
            due("ROWS: " + r + " is none yet", NONE, x.about(r, 0));
            due("ROWS: so many before " + r, r, x.count(0));
            due("ROWS: the number of " + r, r, x.row(1 + r, 100 + r));
        }
        due("ROWS: a seventh", NONE, x.row(1, 1));
        due("ROWS: six", 6, x.count(0));
        due("ROWS: no 6", NONE, x.about(6, 0));
        for (int r = 0; r < 6; r++) {
            due("ROWS: SEATS of " + r, 1 + r, x.about(r, 0));
            due("ROWS: PRICE of " + r, 100 + r, x.about(r, 1));
        }
        due("ROWS: all their SEATS", 1 + 2 + 3 + 4 + 5 + 6, x.count(4));
    }

    /** "have SEATS 0 .. s - 1, s 1 .. 12" */
    private static void seatsOfRows() {
        for (int s = 1; s <= 12; s++) {
            TicketsDrawn x = new TicketsDrawn();
            due("SEATS: taken " + s, 0, x.row(s, 10));
            due("SEATS: told " + s, s, x.about(0, 0));
            due("SEATS: free " + s, s, x.about(0, 2));
            Halls.addAsks(x, 12, 1, 10);
            due("SEATS: who sits on " + s, s, x.seat(1, 0));
            due("SEATS: 0 of " + s, 0, x.at(0, 0));
            due("SEATS: the last of " + s, s - 1, x.at(0, s - 1));
            due("SEATS: behind the last of " + s, NONE, x.at(0, s));
            due("SEATS: before the first of " + s, NONE, x.at(0, -1));
            due("SEATS: none of " + s + " is free", 0, x.about(0, 2));
            due("SEATS: the others are in THE LINE", 12 - s, x.count(3));
        }
        TicketsDrawn y = new TicketsDrawn();
        due("SEATS: 0", NONE, y.row(0, 10));
        due("SEATS: 13", NONE, y.row(13, 10));
        due("SEATS: no ROW of these", 0, y.count(0));
        due("SEATS: no free ones of these", 0, y.count(4));
    }

    /** "and a PRICE, 1 .. 999" */
    private static void prices() {
        TicketsDrawn x = new TicketsDrawn();
        due("PRICE: 0", NONE, x.row(2, 0));
        due("PRICE: 1000", NONE, x.row(2, 1000));
        due("PRICE: no ROW of these", 0, x.count(0));
        due("PRICE: 1", 0, x.row(2, 1));
        due("PRICE: 999", 1, x.row(2, 999));
        due("PRICE: told 1", 1, x.about(0, 1));
        due("PRICE: told 999", 999, x.about(1, 1));
        x.ask(2, 1, 0, false);
        x.ask(2, 999, 0, false);
        x.seat(1, 0);
        due("PRICE: PAID 1 each", 2, x.tell(0, 5));
        due("PRICE: PAID 999 each", 1998, x.tell(1, 5));
    }

    /** "ASKS, at most 12, from 0 on" */
    private static void asksAtMostTwelve() {
        TicketsDrawn x = new TicketsDrawn();
        for (int a = 0; a < 12; a++) {
            due("ASKS: " + a + " is none yet", NONE, x.tell(a, 0));
            due("ASKS: so many before " + a, a, x.count(1));
            due("ASKS: the number of " + a, a, x.ask(1 + a % 6, 10 * a, 77 * a, a % 3 == 0));
        }
        due("ASKS: a thirteenth", NONE, x.ask(1, 1, 1, true));
        due("ASKS: twelve", 12, x.count(1));
        due("ASKS: no 12", NONE, x.tell(12, 0));
        for (int a = 0; a < 12; a++) {
            due("ASKS: SIZE of " + a, 1 + a % 6, x.tell(a, 0));
            due("ASKS: MOST of " + a, 10 * a, x.tell(a, 1));
            due("ASKS: marks of " + a, 77 * a, x.tell(a, 2));
            due("ASKS: parted or not, " + a, a % 3 == 0 ? 1 : 0, x.tell(a, 3));
        }
    }

    /** "have a SIZE, 1 .. 6" */
    private static void sizes() {
        TicketsDrawn x = new TicketsDrawn();
        due("SIZE: 0", NONE, x.ask(0, 10, 0, false));
        due("SIZE: 7", NONE, x.ask(7, 10, 0, false));
        due("SIZE: no ASK of these", 0, x.count(1));
        Halls.addRows(x, 6, 6, 10);
        for (int size = 1; size <= 6; size++) {
            due("SIZE: taken " + size, size - 1, x.ask(size, 10, 0, false));
            due("SIZE: told " + size, size, x.tell(size - 1, 0));
        }
        due("SIZE: all six sit", 6, x.seat(1, 0));
        for (int size = 1; size <= 6; size++) {
            due("SIZE: so many SEATS, " + size, size, x.tell(size - 1, 4));
            due("SIZE: a last one of " + size, true, x.seats(size - 1, size - 1) != NONE);
            due("SIZE: none behind it of " + size, NONE, x.seats(size - 1, size));
        }
    }

    /** "a MOST that they pay for a seat, 0 .. 999" */
    private static void mosts() {
        TicketsDrawn x = new TicketsDrawn();
        due("MOST: -1", NONE, x.ask(1, -1, 0, false));
        due("MOST: 1000", NONE, x.ask(1, 1000, 0, false));
        due("MOST: no ASK of these", 0, x.count(1));
        due("MOST: 0", 0, x.ask(1, 0, 0, true));
        due("MOST: 999", 1, x.ask(1, 999, 0, true));
        due("MOST: told 0", 0, x.tell(0, 1));
        due("MOST: told 999", 999, x.tell(1, 1));
        x.row(4, 1);
        due("MOST: 0 is not enough for a PRICE of 1", 1, x.seat(1, 0));
        due("MOST: it is in THE LINE", 0, x.tell(0, 7));
        TicketsDrawn y = new TicketsDrawn();
        y.row(4, 999);
        y.ask(2, 998, 0, true);
        y.ask(2, 999, 0, true);
        due("MOST: 999 is enough for 999, 998 is not", 1, y.seat(1, 0));
        due("MOST: 999 sits", 1, y.at(0, 0));
    }

    /** "three MARKS, 0 .. 9" */
    private static void marks() {
        TicketsDrawn x = new TicketsDrawn();
        due("MARKS: -1", NONE, x.ask(1, 10, -1, false));
        due("MARKS: 1000", NONE, x.ask(1, 10, 1000, false));
        due("MARKS: no ASK of these", 0, x.count(1));
        int[] taken = {0, 9, 10, 90, 99, 100, 900, 909, 990, 999};
        for (int k = 0; k < taken.length; k++) {
            due("MARKS: taken " + taken[k], k, x.ask(1, 10, taken[k], false));
            due("MARKS: told " + taken[k], taken[k], x.tell(k, 2));
        }
    }

    /** "A HOLE is a free SEAT without a free one next to it in its ROW." */
    private static void holes() {
        TicketsDrawn x = new TicketsDrawn();
        due("HOLE: no ROW", 0, x.count(5));
        x.row(1, 10);
        x.row(1, 10);
        x.row(2, 10);
        due("HOLE: a ROW of one", 1, x.about(0, 3));
        due("HOLE: a free one in the next ROW is not next to it", 2, x.count(5));
        due("HOLE: a ROW of two", 0, x.about(2, 3));
        TicketsDrawn y = new TicketsDrawn();
        y.row(5, 10);
        Halls.addAsks(y, 5, 1, 10);
        y.seat(1, 0);
        for (int s = 0; s < 5; s++) {
            due("HOLE: who comes first, sits first, " + s, s, y.at(0, s));
        }
        due("HOLE: none free", 0, y.about(0, 3));
        int[] given = {2, 0, 4, 1, 3};
        int[] then = {1, 2, 3, 1, 0};
        for (int k = 0; k < 5; k++) {
            y.back(given[k], 1);
            due("HOLE: " + given[k] + " is free, too", then[k], y.about(0, 3));
            due("HOLE: in all, after " + given[k], then[k], y.count(5));
            due("HOLE: free ones, after " + given[k], k + 1, y.about(0, 2));
        }
        TicketsDrawn z = new TicketsDrawn();
        z.row(12, 10);
        Halls.addAsks(z, 11, 1, 10);
        z.seat(1, 0);
        due("HOLE: the last SEAT of twelve", 1, z.about(0, 3));
        due("HOLE: nobody is there", NONE, z.at(0, 11));
    }

    private static int whoSits(int seats, int price, int size, int most, boolean parted) {
        TicketsDrawn x = new TicketsDrawn();
        x.row(seats, price);
        x.ask(size, most, 0, parted);
        return x.seat(1, 0);
    }

    /** "as many free SEATS as its SIZE, next to one another, in a ROW whose PRICE is its MOST at most" */
    private static void blocks() {
        for (int size = 1; size <= 6; size++) {
            due("BLOCK: as many SEATS as SIZE " + size, 1, whoSits(size, 10, size, 10, false));
            due("BLOCK: one more than SIZE " + size, 1, whoSits(size + 1, 10, size, 10, false));
            due("BLOCK: one less than SIZE " + size, size == 1 ? NONE : 0,
                size == 1 ? new TicketsDrawn().row(0, 10) : whoSits(size - 1, 10, size, 10, false));
            due("BLOCK: PRICE one above MOST, SIZE " + size, 0, whoSits(12, 11, size, 10, true));
            due("BLOCK: PRICE one below MOST, SIZE " + size, 1, whoSits(12, 9, size, 10, true));
        }
        TicketsDrawn x = new TicketsDrawn();
        Halls.addRows(x, 2, 3, 10);
        x.ask(4, 10, 0, false);
        due("BLOCK: not over two ROWS", 0, x.seat(1, 0));
    }

    /** "next to one another" */
    private static void blocksPastTakenSeats() {
        TicketsDrawn x = new TicketsDrawn();
        x.row(5, 10);
        Halls.addAsks(x, 5, 1, 10);
        x.ask(2, 10, 0, false);
        x.ask(3, 10, 0, false);
        due("BLOCK: five of seven sit", 5, x.seat(1, 0));
        due("BLOCK: one free SEAT is none for two", 0, x.back(0, 1));
        due("BLOCK: not around one that is taken", 0, x.back(2, 1));
        due("BLOCK: nor by three such", 0, x.back(4, 1));
        due("BLOCK: now there are three, and one behind", 1, x.back(1, 1));
        due("BLOCK: of two with as many HOLES the least SEAT", 0, x.seats(5, 0));
        due("BLOCK: and the one next to it", 1, x.seats(5, 1));
        due("BLOCK: who asks for three stays in line", 0, x.tell(6, 7));
        due("BLOCK: 2, 3, 4 are free", 1, x.back(3, 1));
        due("BLOCK: up to the ROW's end", 4, x.seats(6, 2));
    }

    /** "that by which there are the fewest HOLES in its ROW then" */
    private static void theBlockByHoles() {
        TicketsDrawn x = new TicketsDrawn();
        x.row(4, 10);
        x.row(3, 999);
        x.ask(3, 999, 0, false);
        x.seat(1, 0);
        due("THE BLOCK: no HOLE goes before the least PRICE", 100, x.seats(0, 0));
        TicketsDrawn y = new TicketsDrawn();
        y.row(3, 10);
        y.row(2, 9);
        y.row(1, 999);
        y.ask(1, 999, 0, false);
        y.ask(1, 999, 0, false);
        y.ask(1, 999, 0, false);
        y.seat(1, 0);
        due("THE BLOCK: a HOLE less goes before no HOLE more and the least PRICE", 200, y.seats(0, 0));
        due("THE BLOCK: no HOLE more goes before one more and the least PRICE", 0, y.seats(1, 0));
        due("THE BLOCK: one HOLE more, of two, the least PRICE", 100, y.seats(2, 0));
        TicketsDrawn z = new TicketsDrawn();
        z.row(7, 10);
        z.ask(2, 10, 0, false);
        z.ask(2, 10, 0, false);
        z.ask(1, 10, 0, false);
        z.seat(1, 0);
        due("THE BLOCK: SEATS 0 and 1", 0, z.seats(0, 0));
        due("THE BLOCK: not 3 and 4, with a HOLE at 2", 2, z.seats(1, 0));
        due("THE BLOCK: not 5, with HOLES on both sides", 4, z.seats(2, 0));
    }

    /** "less those that there were in it before": two old HOLES in ROW 0 count for nothing. */
    private static void theBlockByHolesLessThoseBefore() {
        TicketsDrawn x = new TicketsDrawn();
        x.row(7, 10);
        x.row(4, 20);
        Halls.addAsks(x, 6, 1, 10);
        x.ask(5, 20, 0, true);
        x.ask(3, 20, 0, false);
        due("THE BLOCK: all but the last sit", 7, x.seat(1, 0));
        due("THE BLOCK: the parted one begins with the HOLE", 6, x.seats(6, 0));
        due("THE BLOCK: and ends in the other ROW", 103, x.seats(6, 4));
        for (int a : new int[] {0, 2, 4, 5}) {
            due("THE BLOCK: no three free, " + a, 0, x.back(a, 1));
        }
        due("THE BLOCK: two HOLES and two SEATS", 2, x.about(0, 3));
        due("THE BLOCK: three beside two HOLES, and four", 1, x.back(6, 5));
        due("THE BLOCK: no HOLE more in ROW 0, one more in ROW 1", 4, x.seats(7, 0));
        due("THE BLOCK: the two HOLES are left", 2, x.about(0, 3));
    }

    /** A free SEAT behind one that is taken is not next to the BLOCK: 1 or 3 of four is left alone either way. */
    private static void theBlockBesideHoles() {
        TicketsDrawn x = Halls.of(1, 5, 2, 1);
        x.ask(3, 10, 0, false);
        x.ask(2, 10, 0, false);
        x.seat(1, 0);
        due("THE BLOCK: SEAT 0 is a HOLE", 0, x.back(0, 1));
        due("THE BLOCK: 2, 3, 4 are free, too", 1, x.back(2, 3));
        due("THE BLOCK: one HOLE more either way, the least SEAT", 2, x.seats(3, 0));
        TicketsDrawn y = new TicketsDrawn();
        y.row(5, 10);
        y.ask(3, 10, 0, false);
        y.ask(1, 10, 0, false);
        y.ask(1, 10, 0, false);
        y.ask(2, 10, 0, false);
        y.seat(1, 0);
        due("THE BLOCK: the last SEAT is a HOLE", 0, y.back(2, 1));
        due("THE BLOCK: 0, 1, 2 are free, too", 1, y.back(0, 3));
        due("THE BLOCK: one HOLE more either way, SEAT 0", 0, y.seats(3, 0));
    }

    /** "of several that with the least PRICE; then of the least ROW; then of the least SEAT" */
    private static void theBlockAmongEqualHoles() {
        TicketsDrawn x = new TicketsDrawn();
        x.row(4, 12);
        x.row(4, 11);
        x.row(4, 10);
        x.row(4, 10);
        x.ask(2, 12, 0, false);
        x.ask(2, 11, 0, false);
        x.ask(4, 12, 0, false);
        x.ask(4, 12, 0, false);
        x.ask(4, 11, 0, false);
        x.ask(4, 12, 0, false);
        x.seat(1, 0);
        due("THE BLOCK: the least PRICE, the least ROW, the least SEAT", 200, x.seats(0, 0));
        due("THE BLOCK: the same ROW's rest, no HOLES either way", 202, x.seats(1, 0));
        due("THE BLOCK: the next ROW of that PRICE", 300, x.seats(2, 0));
        due("THE BLOCK: the next PRICE", 100, x.seats(3, 0));
        due("THE BLOCK: what is left is too dear", NONE, x.seats(4, 0));
        due("THE BLOCK: the greatest PRICE", 0, x.seats(5, 0));
    }

    /** "If there is none, and it may be parted, and there are as many free SEATS in ROWS with such PRICES" */
    private static void turnsOfParted() {
        for (int size = 2; size <= 6; size++) {
            TicketsDrawn x = Halls.of(size, 1, 0, 1);
            x.ask(size, 10, 0, false);
            x.ask(size, 10, 0, true);
            due("TURN: as many SEATS as SIZE " + size + ", parted", 1, x.seat(1, 0));
            due("TURN: who may not be parted has none", 0, x.tell(0, 4));
            due("TURN: who may has " + size, size, x.tell(1, 4));
            due("TURN: the last of " + size, 100 * (size - 1), x.seats(1, size - 1));
            TicketsDrawn y = Halls.of(size - 1, 1, 0, 1);
            y.row(1, 11);
            y.ask(size, 10, 0, true);
            due("TURN: one of them too dear, of " + size, 0, y.seat(1, 0));
            due("TURN: nothing is taken then", size, y.count(4));
            TicketsDrawn z = Halls.of(size - 1, 1, 0, 1);
            z.ask(size, 10, 0, true);
            due("TURN: one SEAT less than SIZE " + size, 0, z.seat(1, 0));
            due("TURN: it gets nothing", 0, z.tell(0, 4));
            due("TURN: it pays nothing", 0, z.tell(0, 5));
        }
        TicketsDrawn x = Halls.of(2, 3, 0, 1);
        x.ask(4, 10, 0, true);
        due("TURN: over two ROWS", 1, x.seat(1, 0));
        int[] took = {0, 100, 1, 2};
        for (int k = 0; k < 4; k++) {
            due("TURN: one after the other on THE BLOCK for one, " + k, took[k], x.seats(0, k));
        }
        due("TURN: four and no more", 2, x.count(4));
        due("TURN: PAID for four", 40, x.tell(0, 5));
        TicketsDrawn y = Halls.of(1, 3, 0, 1);
        y.ask(3, 10, 0, true);
        y.seat(1, 0);
        due("TURN: together where it can", 1, y.seats(0, 1));
    }

    // ---- Terms 2

    /** "TURNS of n ASKS by a number t, 0 .. n! - 1" */
    private static void numbersOfTurns() {
        int all = 1;
        for (int n = 1; n <= 12; n++) {
            all *= n;
            String of = " of " + n;
            TicketsDrawn x = Halls.of(6, 1, n, 1);
            for (int place = 0; place < n; place++) {
                due("TURNS: number 0" + of, place, x.turn(0, place));
                due("TURNS: the last number" + of, n - 1 - place, x.turn(all - 1, place));
            }
            due("TURNS: n!" + of, NONE, x.turn(all, 0));
            due("TURNS: -1" + of, NONE, x.turn(-1, 0));
            due("TURNS: place n" + of, NONE, x.turn(0, n));
            due("TURNS: place -1" + of, NONE, x.turn(all - 1, -1));
            due("TURNS: would by n!" + of, NONE, x.would(0, all));
            due("TURNS: would by the last" + of, Math.min(n, 6), x.would(0, all - 1));
            due("TURNS: seat by n!" + of, NONE, x.seat(0, all));
            due("TURNS: seat by -1" + of, NONE, x.seat(0, -1));
            due("TURNS: nobody is SEATED by these" + of, 0, x.count(10));
            due("TURNS: seat by the last" + of, Math.min(n, 6), x.seat(0, all - 1));
            due("TURNS: the last ASK comes first" + of, n - 1, x.at(0, 0));
        }
    }

    /** "WAYS to SEAT all, in an empty hall: 0 .., 1 .., 2 .." */
    private static void ways() {
        int[] anything = {0, -1, 24, Integer.MIN_VALUE, Integer.MAX_VALUE};
        for (int t : anything) {
            for (int way = 1; way <= 2; way++) {
                TicketsDrawn x = new TicketsDrawn();
                x.ask(1, 0, 0, false);
                x.ask(1, 999, 0, false);
                x.ask(1, 0, 0, false);
                x.ask(1, 999, 0, false);
                due("WAYS: would by " + way + ", t " + t, 0, x.would(way, t));
                due("WAYS: by " + way + ", t " + t, 0, x.seat(way, t));
                int[] places = way == 1 ? new int[] {0, 1, 2, 3} : new int[] {2, 0, 3, 1};
                for (int a = 0; a < 4; a++) {
                    due("WAYS: the place of " + a + " by " + way, places[a], x.tell(a, 7));
                }
            }
        }
        TicketsDrawn y = Halls.of(1, 1, 12, 1);
        due("WAYS: of several as great the least", 1, y.seat(2, 0));
        due("WAYS: ASK 0 of twelve", 0, y.at(0, 0));
        due("WAYS: 11 is the last in line", 10, y.tell(11, 7));
        due("WAYS: -1", NONE, y.would(-1, 0));
        due("WAYS: 3", NONE, y.would(3, 0));
        due("WAYS: would in an empty hall, when all are SEATED", 1, y.would(1, 0));
    }

    /** "SHARE of an ASK: by how many numbers of all n! it sits (told of at most 6 ASKS)" */
    private static void sharesOfAtMostSix() {
        TicketsDrawn x = new TicketsDrawn();
        due("SHARE: no ASK", NONE, x.share(0));
        Halls.addRows(x, 6, 1, 10);
        int all = 1;
        for (int n = 1; n <= 6; n++) {
            all *= n;
            x.ask(1, 10, 0, false);
            due("SHARE: always, of " + n, all, x.share(0));
            due("SHARE: the last of " + n, all, x.share(n - 1));
            due("SHARE: no " + n, NONE, x.share(n));
        }
        x.ask(1, 10, 0, false);
        for (int a = 0; a < 7; a++) {
            due("SHARE: of seven, " + a, NONE, x.share(a));
        }
        TicketsDrawn y = Halls.of(1, 1, 6, 1);
        for (int a = 0; a < 6; a++) {
            due("SHARE: one SEAT for six, " + a, 120, y.share(a));
        }
        TicketsDrawn z = new TicketsDrawn();
        z.ask(1, 999, 0, true);
        due("SHARE: no ROW", 0, z.share(0));
        z.row(1, 999);
        due("SHARE: one ROW", 1, z.share(0));
        z.ask(2, 999, 0, true);
        due("SHARE: one who never sits", 0, z.share(1));
        due("SHARE: beside one who always does", 2, z.share(0));
    }

    /** "ALIKE are two ASKS with at least two of their three MARKS alike." */
    private static void alikes() {
        int[] marks = {123, 123, 124, 153, 423, 156, 426, 453, 456};
        boolean[] alike = {false, true, true, true, true, false, false, false, false};
        TicketsDrawn x = new TicketsDrawn();
        for (int m : marks) {
            x.ask(1, 1, m, false);
        }
        for (int a = 0; a < marks.length; a++) {
            due("ALIKE: 123 and " + marks[a] + " (" + a + ")", alike[a], x.alike(0, a));
            due("ALIKE: " + marks[a] + " and 123 (" + a + ")", alike[a], x.alike(a, 0));
        }
        TicketsDrawn y = new TicketsDrawn();
        int[] small = {0, 9, 90, 900, 99, 999, 7, 70};
        for (int m : small) {
            y.ask(1, 1, m, false);
        }
        due("ALIKE: 000 and 009", true, y.alike(0, 1));
        due("ALIKE: 000 and 090", true, y.alike(0, 2));
        due("ALIKE: 000 and 900", true, y.alike(0, 3));
        due("ALIKE: 000 and 099", false, y.alike(0, 4));
        due("ALIKE: 000 and 999", false, y.alike(0, 5));
        due("ALIKE: 099 and 999", true, y.alike(4, 5));
        due("ALIKE: 009 and 007", true, y.alike(1, 6));
        due("ALIKE: 007 and 070", false, y.alike(6, 7));
    }

    /** "ASKS of which each comes to each other by ones that are ALIKE, one to the next" */
    private static void heaps() {
        int[] chain = {0, 100, 110, 111, 211, 221, 222, 322, 332, 333, 433, 443};
        int[] mixed = {11, 0, 5, 10, 1, 7, 3, 9, 2, 8, 4, 6};
        for (int order = 0; order < 3; order++) {
            TicketsDrawn x = new TicketsDrawn();
            for (int k = 0; k < 12; k++) {
                x.ask(1, 1, chain[order == 0 ? k : order == 1 ? 11 - k : mixed[k]], false);
            }
            for (int a = 0; a < 12; a++) {
                due("HEAP: a chain of twelve, in order " + order + ", " + a, 0, x.heap(a));
            }
        }
        TicketsDrawn y = new TicketsDrawn();
        for (int k = 0; k < 12; k++) {
            due("HEAP: is none yet, " + k, NONE, y.heap(k));
            y.ask(1, 1, k < 10 ? 111 * k : k == 10 ? 780 : 980, false);
        }
        for (int a = 0; a < 11; a++) {
            due("HEAP: alone, " + a, a, y.heap(a));
        }
        due("HEAP: of two", 10, y.heap(11));
    }

    // ---- Terms 3

    /** "SEATED (from seat() on, until clear()), all have what they got by that" */
    private static void seatedUntilClear() {
        TicketsDrawn x = Halls.of(1, 2, 3, 1);
        due("SEATED: not yet", 0, x.count(10));
        x.would(1, 0);
        x.share(0);
        due("SEATED: not by would() or share()", 0, x.count(10));
        x.seat(1, 0);
        due("SEATED: from seat() on", 1, x.count(10));
        x.back(0, 1);
        x.back(1, 1);
        x.back(2, 1);
        due("SEATED: though nobody sits any more", 1, x.count(10));
        due("SEATED: nobody does", 0, x.count(2));
        due("SEATED: so no ROW comes", NONE, x.row(1, 1));
        x.clear();
        due("SEATED: until clear()", 0, x.count(10));
        due("SEATED: a ROW comes", 1, x.row(1, 1));
    }

    /** "THE LINE are those that got nothing, as their TURNS came." */
    private static void theLine() {
        TicketsDrawn x = Halls.of(1, 1, 4, 1);
        due("LINE: is empty", 0, x.count(3));
        // 23 is the last number: 3, 2, 1, 0.
        x.seat(0, 23);
        due("LINE: who sits is not in it", NONE, x.tell(3, 7));
        for (int a = 0; a < 3; a++) {
            due("LINE: the place of " + a, 2 - a, x.tell(a, 7));
        }
        due("LINE: three", 3, x.count(3));
        TicketsDrawn y = Halls.of(4, 1, 4, 1);
        y.seat(0, 0);
        due("LINE: all sit", 0, y.count(3));
        due("LINE: nobody has a place", NONE, y.tell(3, 7));
    }

    /** "DAYS are left to the show, 0 .. 99 (30 at first)." */
    private static void daysLeft() {
        TicketsDrawn x = new TicketsDrawn();
        due("DAYS: at first", 30, x.count(8));
        int[] refused = {31, 99, 100, -1};
        for (int left : refused) {
            due("DAYS: " + left, false, x.days(left));
            due("DAYS: as they were after " + left, 30, x.count(8));
        }
        for (int left = 30; left >= 0; left--) {
            due("DAYS: " + left, true, x.days(left));
            due("DAYS: one more than " + left, false, x.days(left + 1));
            due("DAYS: " + left + " once more", true, x.days(left));
            due("DAYS: told " + left, left, x.count(8));
        }
        due("DAYS: none below 0", false, x.days(-1));
        due("DAYS: 1 is more than 0", false, x.days(1));
        due("DAYS: 0 it is", 0, x.count(8));
    }

    /** "gives so many SEATS back, 1 .. as many as it has, those that it took last first" */
    private static void givenBack() {
        for (int size = 1; size <= 6; size++) {
            for (int n = 1; n <= size; n++) {
                TicketsDrawn x = Halls.of(1, size, 1, size);
                x.seat(1, 0);
                String what = "GIVEN BACK: " + n + " of " + size;
                due(what + ", 0", NONE, x.back(0, 0));
                due(what + ", one too many", NONE, x.back(0, size + 1));
                due(what + ", as before", size, x.tell(0, 4));
                due(what + ", no REFUND", 0, x.tell(0, 6));
                due(what, 0, x.back(0, n));
                due(what + ", is left", size - n, x.tell(0, 4));
                due(what + ", REFUND", 10 * n, x.tell(0, 6));
                due(what + ", the last are free", NONE, x.at(0, size - n));
                due(what + ", the one before is not", size == n ? NONE : 0, x.at(0, size - n - 1));
                due(what + ", no more of them", NONE, x.seats(0, size - n));
                due(what + ", more than are left", NONE, x.back(0, size - n + 1));
                due(what + ", all that are left", size == n ? NONE : 0, x.back(0, size - n));
            }
        }
        TicketsDrawn x = new TicketsDrawn();
        x.row(1, 30);
        x.row(2, 10);
        x.ask(3, 30, 0, true);
        x.seat(1, 0);
        due("GIVEN BACK: it took the HOLE first", 0, x.seats(0, 0));
        x.back(0, 2);
        due("GIVEN BACK: and keeps it", 0, x.at(0, 0));
        due("GIVEN BACK: at their own PRICES", 20, x.tell(0, 6));
    }

    /** "Then THE LINE is asked, from its beginning on, once each: who sits by its TURN now pays, and is out" */
    private static void theLineIsAsked() {
        TicketsDrawn x = Halls.of(1, 6, 1, 6);
        x.ask(3, 10, 0, false);
        x.ask(4, 10, 0, false);
        x.ask(2, 9, 0, false);
        x.ask(2, 10, 0, false);
        x.ask(1, 10, 0, false);
        due("LINE asked: one sits", 1, x.seat(1, 0));
        due("LINE asked: five are in it", 5, x.count(3));
        due("LINE asked: of six SEATS three ASKS sit", 3, x.back(0, 6));
        int[] places = {NONE, NONE, 0, 1, NONE, NONE};
        int[] paid = {60, 30, 0, 0, 20, 10};
        int[] seats = {0, 3, 0, 0, 2, 1};
        for (int a = 0; a < 6; a++) {
            due("LINE asked: the place of " + a, places[a], x.tell(a, 7));
            due("LINE asked: what was PAID by " + a, paid[a], x.tell(a, 5));
            due("LINE asked: the SEATS of " + a, seats[a], x.tell(a, 4));
        }
        due("LINE asked: two are left", 2, x.count(3));
        due("LINE asked: the first took the first SEATS", 0, x.seats(1, 0));
        due("LINE asked: then who fits", 3, x.seats(4, 0));
        due("LINE asked: then the last", 5, x.seats(5, 0));
        due("LINE asked: who gave back is not asked", NONE, x.at(0, 6));
        due("LINE asked: nobody fits", 0, x.back(5, 1));
        due("LINE asked: who gave all back gets nothing", NONE, x.at(0, 5));
        TicketsDrawn y = Halls.fullWithLine();
        for (int k = 0; k < 6; k++) {
            due("LINE asked: the next sits, " + k, 1, y.back(k, 1));
            due("LINE asked: where the other sat, " + k, 6 + k, y.at(k, 0));
            due("LINE asked: so many are left, " + k, 5 - k, y.count(3));
        }
        due("LINE asked: an empty LINE", 0, y.back(11, 1));
        due("LINE asked: the SEAT is free", 1, y.count(4));
    }

    // ---- Terms 4

    /** "A DOOR opens for a SEAT on which someone sits, once, on DAY 0 alone" */
    private static void doorsOnDayZero() {
        TicketsDrawn x = Halls.of(1, 12, 1, 6);
        x.days(0);
        due("DOOR: before seat()", false, x.door(0, 0));
        x.clear();
        x.seat(1, 0);
        for (int left : new int[] {30, 29, 1}) {
            due("DOOR: it is DAY " + left, true, x.days(left));
            due("DOOR: not on DAY " + left, false, x.door(0, 0));
        }
        due("DOOR: none opened", 0, x.count(9));
        x.days(0);
        for (int s = 0; s < 12; s++) {
            due("DOOR: on DAY 0, SEAT " + s, s < 6, x.door(0, s));
            due("DOOR: once, SEAT " + s, false, x.door(0, s));
            due("DOOR: so many, SEAT " + s, Math.min(s + 1, 6), x.count(9));
        }
        due("DOOR: behind the last SEAT", false, x.door(0, 12));
        due("DOOR: before the first SEAT", false, x.door(0, -1));
        due("DOOR: another ROW", false, x.door(1, 0));
        due("DOOR: a ROW before the first", false, x.door(-1, 0));
    }

    /** "is not GIVEN BACK: of those of its ASK that it took later all may be, and no others" */
    private static void doorsAndSeatsGivenBack() {
        for (int opened = 0; opened < 6; opened++) {
            TicketsDrawn x = Halls.of(1, 6, 1, 6);
            x.seat(1, 0);
            x.days(0);
            x.door(0, opened);
            int later = 5 - opened;
            String what = "DOOR for SEAT " + opened + " of six";
            due(what + ": one too many", NONE, x.back(0, later + 1));
            due(what + ": all", NONE, x.back(0, 6));
            due(what + ": as before", 6, x.tell(0, 4));
            due(what + ": all later ones", later == 0 ? NONE : 0, x.back(0, later));
            due(what + ": is left", 6 - later, x.tell(0, 4));
            due(what + ": no more", NONE, x.back(0, 1));
            due(what + ": it sits there", 0, x.at(0, opened));
        }
        TicketsDrawn y = Halls.of(1, 6, 2, 3);
        y.seat(1, 0);
        y.days(0);
        y.door(0, 0);
        y.door(0, 1);
        due("DOOR: the latest of two counts, two", NONE, y.back(0, 2));
        due("DOOR: the latest of two counts, one", 0, y.back(0, 1));
        due("DOOR: another ASK may give all", 0, y.back(1, 3));
    }

    /** A door that opened for one seat of a row says nothing of a seat that the next takes. */
    private static void doorsOfTheNext() {
        TicketsDrawn x = Halls.of(1, 3, 1, 3);
        x.ask(2, 10, 0, false);
        x.seat(1, 0);
        x.days(0);
        x.door(0, 0);
        due("DOOR: the next sits", 1, x.back(0, 2));
        due("DOOR: none opened for it", 1, x.count(9));
        due("DOOR: it opens for the next", true, x.door(0, 2));
        due("DOOR: once for the next", false, x.door(0, 2));
        due("DOOR: none of its SEATS may be GIVEN BACK", NONE, x.back(1, 1));
        due("DOOR: it took SEAT 1 before", 1, x.seats(1, 0));
        due("DOOR: two opened", 2, x.count(9));
    }
}
