/** Objects in the states that the tests of edges begin with. */
final class Halls {
    static final int MOST_ROWS = 6;
    static final int MOST_ASKS = 12;

    private Halls() { }

    static void addRows(TicketsDrawn x, int many, int seats, int price) {
        for (int k = 0; k < many; k++) {
            x.row(seats, price);
        }
    }

    static void addAsks(TicketsDrawn x, int many, int size, int most) {
        for (int k = 0; k < many; k++) {
            x.ask(size, most, 83 * k % 1000, k % 2 == 1);
        }
    }

    static TicketsDrawn of(int rows, int seats, int asks, int size) {
        TicketsDrawn x = new TicketsDrawn();
        addRows(x, rows, seats, 10);
        addAsks(x, asks, size, 10);
        return x;
    }

    static TicketsDrawn seated(TicketsDrawn x) {
        x.seat(1, 0);
        return x;
    }

    /** 72 seats for twelve groups of six: ask a fits on row a / 2, from seat 0 or 6 on. */
    static TicketsDrawn full() {
        return of(MOST_ROWS, 12, MOST_ASKS, 6);
    }

    /** Six seats, each a row, for twelve: 0 to 5 sit by first come, 6 to 11 are in line. */
    static TicketsDrawn fullWithLine() {
        return seated(of(MOST_ROWS, 1, MOST_ASKS, 1));
    }

    /** Full and seated; a door opened for the last seat of ask 0 and for the first of ask 2. */
    static TicketsDrawn fullOnDayZero() {
        TicketsDrawn x = seated(full());
        x.days(0);
        x.door(0, 5);
        x.door(1, 0);
        return x;
    }

    static TicketsDrawn cleared(TicketsDrawn x) {
        x.clear();
        return x;
    }

    static TicketsDrawn withTape(int bytes) {
        TicketsDrawn x = new TicketsDrawn();
        Check.feed(x, "none;" + " ".repeat(bytes - 5), 0);
        return x;
    }

    /** Some of all: a line, terms, a fault, a tape, money both ways, a door, images 0 and 2. */
    static TicketsDrawn amidst() {
        TicketsDrawn x = new TicketsDrawn();
        x.image(0);
        x.row(4, 10);
        x.row(2, 7);
        x.ask(3, 10, 123, false);
        x.ask(2, 7, 124, false);
        x.ask(3, 12, 555, true);
        x.ask(2, 9, 129, true);
        Check.terms(x, "if back=1 and row=0:part 33;if days<5:none;");
        x.seat(2, 0);
        x.image(2);
        x.back(2, 1);
        x.days(0);
        x.door(0, 0);
        Check.terms(x, "part 101;");
        Check.feed(x, "part 50", 0);
        return x;
    }
}
