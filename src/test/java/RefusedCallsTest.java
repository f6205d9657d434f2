import java.util.ArrayList;
import java.util.List;
import java.util.function.Function;
import java.util.function.Supplier;
import java.util.function.ToIntFunction;

/** Each refused call, in each state: it answers NONE or false, and all that is told stays as it was. */
public final class RefusedCallsTest {
    private static final int NONE = TicketsDrawn.NONE;
    private static final int LOW = Integer.MIN_VALUE;
    private static final int HIGH = Integer.MAX_VALUE;
    /** 12!: no number of turns, however many asks there are. */
    private static final int TOO_MANY_TURNS = 479001600;

    private record Call(String name, ToIntFunction<TicketsDrawn> made) { }

    /** Adds calls to a list; false counts as NONE here. */
    private static final class Calls {
        final List<Call> all = new ArrayList<>();

        Calls number(String name, ToIntFunction<TicketsDrawn> made) {
            all.add(new Call(name, made));
            return this;
        }

        Calls truth(String name, Function<TicketsDrawn, Boolean> made) {
            return number(name, x -> made.apply(x) ? 1 : NONE);
        }

        Calls row(int seats, int price) {
            return number("row(" + seats + ", " + price + ")", x -> x.row(seats, price));
        }

        Calls ask(int size, int most, int marks) {
            String name = "ask(" + size + ", " + most + ", " + marks + ")";
            return number(name, x -> x.ask(size, most, marks, true));
        }

        Calls seat(int way, int t) {
            return number("seat(" + way + ", " + t + ")", x -> x.seat(way, t));
        }

        Calls would(int way, int t) {
            return number("would(" + way + ", " + t + ")", x -> x.would(way, t));
        }

        Calls share(int ask) {
            return number("share(" + ask + ")", x -> x.share(ask));
        }

        Calls turn(int t, int place) {
            return number("turn(" + t + ", " + place + ")", x -> x.turn(t, place));
        }

        Calls heap(int ask) {
            return number("heap(" + ask + ")", x -> x.heap(ask));
        }

        Calls alike(int a, int b) {
            return truth("alike(" + a + ", " + b + ")", x -> x.alike(a, b));
        }

        Calls days(int left) {
            return truth("days(" + left + ")", x -> x.days(left));
        }

        Calls feed() {
            return number("feed", x -> x.feed(-1, 0x3b3b3b3b, 0, 1, 2));
        }

        Calls end(int n) {
            return number("end(" + n + ")", x -> x.end(n));
        }

        Calls fault(int what) {
            return number("fault(" + what + ")", x -> x.fault(what));
        }

        Calls back(int ask, int n) {
            return number("back(" + ask + ", " + n + ")", x -> x.back(ask, n));
        }

        Calls door(int row, int seat) {
            return truth("door(" + row + ", " + seat + ")", x -> x.door(row, seat));
        }

        Calls at(int row, int seat) {
            return number("at(" + row + ", " + seat + ")", x -> x.at(row, seat));
        }

        Calls tell(int ask, int what) {
            return number("tell(" + ask + ", " + what + ")", x -> x.tell(ask, what));
        }

        Calls seats(int ask, int k) {
            return number("seats(" + ask + ", " + k + ")", x -> x.seats(ask, k));
        }

        Calls about(int row, int what) {
            return number("about(" + row + ", " + what + ")", x -> x.about(row, what));
        }

        Calls count(int what) {
            return number("count(" + what + ")", x -> x.count(what));
        }

        Calls image(int k) {
            return truth("image(" + k + ")", x -> x.image(k));
        }

        Calls again(int k) {
            return truth("again(" + k + ")", x -> x.again(k));
        }
    }

    public static void main(String[] args) {
        state("a new object", TicketsDrawn::new, refusedByNew());
        state("rows alone", () -> Halls.of(6, 2, 0, 1), refusedWithoutAsks());
        state("asks alone", () -> Halls.of(0, 1, 12, 1), refusedWithoutRows());
        state("asks alone, seated", () -> Halls.seated(Halls.of(0, 1, 12, 1)), refusedWithoutRowsSeated());
        state("six asks", () -> Halls.of(2, 2, 6, 2), new Calls().turn(720, 0).seat(0, 720).would(0, 720)
            .share(6).heap(6).alike(0, 6).tell(6, 0).seats(6, 0).about(2, 0).at(2, 0).at(0, 2));
        state("both full", Halls::full, refusedByFull());
        state("both full, seated", () -> Halls.seated(Halls.full()), refusedByFullSeated());
        state("both full, on day 0", Halls::fullOnDayZero, refusedOnDayZero());
        state("both full, a line", Halls::fullWithLine, refusedWithLine());
        state("both full, cleared", () -> Halls.cleared(Halls.fullOnDayZero()), refusedByFull());
        state("300 bytes", () -> Halls.withTape(300), refusedByNew().feed());
        state("281 bytes", () -> Halls.withTape(281), new Calls().feed().end(282));
        state("amidst", Halls::amidst, refusedAmidst());
        state("amidst, cleared", () -> Halls.cleared(Halls.amidst()),
            new Calls().again(1).back(2, 1).door(0, 0).at(0, 0).seats(2, 0).tell(0, 7).days(31).end(8));
        Check.finish("RefusedCallsTest");
    }

    private static void state(String name, Supplier<TicketsDrawn> made, Calls others) {
        List<String> looked = Told.looked(made.get());
        TicketsDrawn whole = made.get();
        Told.looked(whole);
        List<String> usedUp = Told.usedUp(whole);
        List<Call> calls = new ArrayList<>(refusedByAll().all);
        calls.addAll(others.all);
        for (Call call : calls) {
            TicketsDrawn x = made.get();
            String what = name + ", " + call.name;
            Check.due(what, NONE, call.made.applyAsInt(x));
            Check.same(what + ", looked at", looked, Told.looked(x));
            Check.same(what + ", used up", usedUp, Told.usedUp(x));
        }
        callsThatOnlyTell(name, made, looked, usedUp);
        faultyTerms(name, made);
    }

    /** What these answer is told elsewhere; here it counts that nothing changes by them. */
    private static void callsThatOnlyTell(String name, Supplier<TicketsDrawn> made, List<String> looked,
                                          List<String> usedUp) {
        Calls calls = new Calls().would(0, 0).would(1, 5).would(2, -1).share(0).turn(0, 0).heap(0).alike(0, 1)
            .fault(0).fault(1).at(0, 0).seats(0, 0);
        for (int what = 0; what <= 10; what++) {
            calls.tell(0, what).about(0, what).count(what);
        }
        for (Call call : calls.all) {
            TicketsDrawn x = made.get();
            call.made.applyAsInt(x);
            Check.same(name + ", " + call.name + " tells alone", looked, Told.looked(x));
            Check.same(name + ", " + call.name + " tells alone, used up", usedUp, Told.usedUp(x));
        }
        for (int k = 0; k < 3; k++) {
            TicketsDrawn x = made.get();
            Check.due(name + ", image(" + k + ")", true, x.image(k));
            Check.same(name + ", an image is taken", looked, Told.looked(x));
            TicketsDrawn y = made.get();
            y.image(k);
            Check.due(name + ", again(" + k + ")", true, y.again(k));
            Check.same(name + ", and is back at once", looked, Told.looked(y));
        }
    }

    /** terms() with a FAULT: the tape is empty then, the FAULT is told, and all else is as it was. */
    private static void faultyTerms(String name, Supplier<TicketsDrawn> made) {
        TicketsDrawn left = made.get();
        left.end(0);
        TicketsDrawn x = made.get();
        x.end(0);
        Check.feed(x, "none;;", 0);
        Check.due(name + ", terms() with a FAULT", NONE, x.terms());
        Check.due(name + ", the FAULT", 1, x.fault(0));
        Check.due(name + ", its place", 5, x.fault(1));
        Check.same(name + ", after a FAULT", withoutFault(Told.looked(left)), withoutFault(Told.looked(x)));
        Check.same(name + ", after a FAULT, used up", Told.usedUp(left), Told.usedUp(x));
    }

    private static List<String> withoutFault(List<String> lines) {
        return lines.stream().filter(line -> !line.startsWith("fault")).toList();
    }

    private static Calls refusedByAll() {
        Calls c = new Calls();
        int[][] rows = {{0, 5}, {-1, 5}, {13, 5}, {LOW, 5}, {HIGH, 5}, {5, 0}, {5, -1}, {5, 1000}, {5, LOW},
            {5, HIGH}, {0, 0}, {13, 1000}};
        for (int[] row : rows) {
            c.row(row[0], row[1]);
        }
        int[][] asks = {{0, 5, 5}, {-1, 5, 5}, {7, 5, 5}, {LOW, 5, 5}, {HIGH, 5, 5}, {1, -1, 5}, {1, 1000, 5},
            {1, LOW, 5}, {1, HIGH, 5}, {1, 5, -1}, {1, 5, 1000}, {1, 5, LOW}, {1, 5, HIGH}, {7, 1000, 1000}};
        for (int[] ask : asks) {
            c.ask(ask[0], ask[1], ask[2]);
        }
        int[][] ways = {{-1, 0}, {3, 0}, {LOW, 0}, {HIGH, 0}, {0, -1}, {0, TOO_MANY_TURNS}, {0, LOW}, {0, HIGH}};
        for (int[] way : ways) {
            c.seat(way[0], way[1]).would(way[0], way[1]);
        }
        for (int t : new int[] {-1, TOO_MANY_TURNS, LOW, HIGH}) {
            c.turn(t, 0);
        }
        for (int ask : new int[] {-1, 12, LOW, HIGH}) {
            c.share(ask).turn(0, ask).heap(ask).alike(ask, 0).alike(0, ask).alike(ask, ask).back(ask, 1);
            c.tell(ask, 0).tell(ask, 7).seats(ask, 0);
        }
        c.alike(0, 0).alike(11, 11);
        for (int left : new int[] {-1, 31, 99, 100, LOW, HIGH}) {
            c.days(left);
        }
        c.end(-1).end(301).end(LOW).end(HIGH).fault(-1).fault(2).fault(LOW).fault(HIGH);
        for (int n : new int[] {0, -1, 7, LOW, HIGH}) {
            c.back(0, n);
        }
        int[][] places = {{-1, 0}, {6, 0}, {0, -1}, {0, 12}, {LOW, 0}, {HIGH, 0}, {0, LOW}, {0, HIGH}, {0, 100},
            {1, -100}, {42949673, 0}, {HIGH, HIGH}};
        for (int[] place : places) {
            c.at(place[0], place[1]).door(place[0], place[1]);
        }
        for (int what : new int[] {-1, 8, LOW, HIGH}) {
            c.tell(0, what);
        }
        for (int k : new int[] {-1, 6, LOW, HIGH}) {
            c.seats(0, k).about(k, 0);
        }
        for (int what : new int[] {-1, 4, LOW, HIGH}) {
            c.about(0, what);
        }
        for (int k : new int[] {-1, 3, LOW, HIGH}) {
            c.image(k).again(k);
        }
        return c.count(-1).count(11).count(LOW).count(HIGH);
    }

    private static Calls refusedByNew() {
        Calls c = new Calls();
        for (int way = 0; way < 3; way++) {
            c.seat(way, 0).would(way, 0);
        }
        for (int what = 0; what < 8; what++) {
            c.tell(0, what);
        }
        for (int what = 0; what < 4; what++) {
            c.about(0, what);
        }
        return c.share(0).turn(0, 0).heap(0).alike(0, 1).end(301).back(0, 1).door(0, 0).at(0, 0).seats(0, 0)
            .again(0).again(1).again(2);
    }

    private static Calls refusedWithoutAsks() {
        Calls c = new Calls();
        for (int way = 0; way < 3; way++) {
            c.seat(way, 0).would(way, 0);
        }
        return c.row(1, 1).share(0).turn(0, 0).heap(0).alike(0, 1).back(0, 1).door(0, 0).at(0, 0).at(5, 1)
            .tell(0, 0).tell(0, 7).seats(0, 0).about(0, 4).end(1);
    }

    private static Calls refusedWithoutRows() {
        return new Calls().ask(1, 1, 1).share(0).share(11).back(0, 1).door(0, 0).at(0, 0).seats(0, 0)
            .tell(0, 7).about(0, 0).about(0, 2).about(0, 3);
    }

    private static Calls refusedWithoutRowsSeated() {
        return new Calls().row(1, 1).ask(1, 1, 1).seat(0, 0).seat(1, 0).seat(2, 0).share(0).back(0, 1)
            .door(0, 0).at(0, 0).seats(0, 0).about(0, 0);
    }

    private static Calls refusedByFull() {
        return new Calls().row(1, 1).row(12, 999).ask(1, 0, 0).ask(6, 999, 999).share(0).share(11).back(0, 1)
            .back(11, 6).door(0, 0).at(0, 0).at(5, 11).seats(0, 0).tell(0, 7).days(31).turn(0, 12);
    }

    private static Calls refusedByFullSeated() {
        return new Calls().row(1, 1).ask(1, 1, 1).seat(0, 0).seat(1, 0).seat(2, 0).share(0).back(0, 7)
            .back(11, 7).door(0, 0).door(5, 11).seats(0, 6).tell(0, 7).tell(11, 7).days(31);
    }

    private static Calls refusedOnDayZero() {
        return new Calls().row(1, 1).ask(1, 1, 1).seat(1, 0).days(1).days(30).door(0, 5).door(1, 0)
            .back(0, 1).back(0, 6).back(2, 6).back(1, 7).door(0, 12);
    }

    private static Calls refusedWithLine() {
        return new Calls().row(1, 1).ask(1, 1, 1).seat(0, 5).back(6, 1).back(11, 1).back(0, 2).seats(6, 0)
            .seats(0, 1).at(0, 1).door(0, 0).tell(0, 7).tell(5, 7);
    }

    private static Calls refusedAmidst() {
        return new Calls().row(1, 1).ask(1, 1, 1).seat(2, 0).seat(0, 0).days(1).again(1).door(0, 0)
            .back(2, 2).end(8).seat(1, 0);
    }
}
