import java.util.List;

/** Counts what a test asks, prints what is not as due, and ends the test. */
final class Check {
    private static int asked = 0;
    private static int wrong = 0;

    private Check() { }

    static void due(String what, long want, long got) {
        asked++;
        if (want != got) {
            wrong++;
            System.out.println(what + ": answered " + got + ", due is " + want);
        }
    }

    static void due(String what, boolean want, boolean got) {
        due(what, want ? 1 : 0, got ? 1 : 0);
    }

    static void due(String what, String want, String got) {
        asked++;
        if (!want.equals(got)) {
            wrong++;
            System.out.println(what + ": told " + got + ", due is " + want);
        }
    }

    /** Two objects' tellings: the first line in which they are not alike is printed. */
    static void same(String what, List<String> want, List<String> got) {
        int at = 0;
        while (at < want.size() && at < got.size() && want.get(at).equals(got.get(at))) {
            at++;
        }
        boolean alike = at == want.size() && at == got.size();
        String due = at < want.size() ? want.get(at) : "no more";
        String told = at < got.size() ? got.get(at) : "no more";
        due(alike ? what : what + ": told " + told + ", where due is " + due, true, alike);
    }

    static int wrongSoFar() {
        return wrong;
    }

    static void finish(String name) {
        System.out.println(name + ": " + asked + " asked, " + wrong + " wrong");
        if (wrong != 0) {
            System.exit(1);
        }
    }

    /** Puts a text behind the tape, as feed() takes it: filled up with blanks, and cut to its length. */
    static void feed(TicketsDrawn x, String text, int before) {
        int[] five = new int[5];
        int fed = 0;
        while (fed < text.length()) {
            for (int i = 0; i < 5; i++) {
                five[i] = 0;
                for (int k = 0; k < 4; k++) {
                    int at = fed + 4 * i + k;
                    five[i] = five[i] << 8 | (at < text.length() ? text.charAt(at) & 255 : 32);
                }
            }
            x.feed(five[0], five[1], five[2], five[3], five[4]);
            fed += 20;
        }
        x.end(before + text.length());
    }

    static int terms(TicketsDrawn x, String text) {
        x.end(0);
        feed(x, text, 0);
        return x.terms();
    }
}
