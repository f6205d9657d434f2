import java.util.ArrayList;
import java.util.List;

/** Halls told in brief, and what is seen of them: ask 0 is a, ask 1 is b, and so on; a dot is a free seat. */
final class Brief {
    private Brief() { }

    /** Rows as "3@10 2@8": seats and price; asks as "2<10 1<8p 1<9#123": size, most, parted or not, marks. */
    static TicketsDrawn hall(String rows, String asks) {
        TicketsDrawn x = new TicketsDrawn();
        addRows(x, rows);
        addAsks(x, asks);
        return x;
    }

    static TicketsDrawn firstCome(String rows, String asks) {
        TicketsDrawn x = hall(rows, asks);
        x.seat(1, 0);
        return x;
    }

    static void addRows(TicketsDrawn x, String rows) {
        for (String row : words(rows)) {
            String[] numbers = row.split("@");
            x.row(Integer.parseInt(numbers[0]), Integer.parseInt(numbers[1]));
        }
    }

    static void addAsks(TicketsDrawn x, String asks) {
        for (String ask : words(asks)) {
            boolean parted = ask.contains("p");
            String[] numbers = ask.replace("p", "").split("[<#]");
            int marks = numbers.length > 2 ? Integer.parseInt(numbers[2]) : 0;
            x.ask(Integer.parseInt(numbers[0]), Integer.parseInt(numbers[1]), marks, parted);
        }
    }

    private static List<String> words(String text) {
        return text.isEmpty() ? List.of() : List.of(text.split(" "));
    }

    private static char letter(int ask) {
        return ask == TicketsDrawn.NONE ? '.' : (char) ('a' + ask);
    }

    /** "aab.|c": who sits where, row by row. */
    static String seen(TicketsDrawn x) {
        List<String> rows = new ArrayList<>();
        int many = x.count(0);
        for (int r = 0; r < many; r++) {
            StringBuilder row = new StringBuilder();
            int seats = x.about(r, 0);
            for (int s = 0; s < seats; s++) {
                row.append(letter(x.at(r, s)));
            }
            rows.add(row.toString());
        }
        return String.join("|", rows);
    }

    /** "cab": who is in line, from its beginning on. */
    static String line(TicketsDrawn x) {
        int asks = x.count(1);
        char[] line = new char[x.count(3)];
        for (int a = 0; a < asks; a++) {
            int place = x.tell(a, 7);
            if (place != TicketsDrawn.NONE) {
                line[place] = letter(a);
            }
        }
        return new String(line);
    }

    /** "100 0 1": the seats of an ask as it took them. */
    static String taken(TicketsDrawn x, int ask) {
        List<String> seats = new ArrayList<>();
        for (int k = 0; x.seats(ask, k) != TicketsDrawn.NONE; k++) {
            seats.add(Integer.toString(x.seats(ask, k)));
        }
        return String.join(" ", seats);
    }

    /** "20 0 15": one thing that tell() tells, of every ask. */
    static String ofAll(TicketsDrawn x, int what) {
        List<String> told = new ArrayList<>();
        int asks = x.count(1);
        for (int a = 0; a < asks; a++) {
            told.add(Integer.toString(x.tell(a, what)));
        }
        return String.join(" ", told);
    }
}
