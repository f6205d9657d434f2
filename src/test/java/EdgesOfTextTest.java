import java.util.List;

/** The document's Terms 3, THE TERMS: the tape, tokens, lines, tests and faults, at each of their limits. */
public final class EdgesOfTextTest {
    private static final int NONE = TicketsDrawn.NONE;
    private static final int GOES_ON = -2;
    private static final List<String> FACTS = List.of("days", "price", "size", "row", "back");
    private static final List<String> ENDINGS = List.of("part", "whole", "none");
    private static final List<String> COMPARISONS = List.of("<", ">", "=");

    private static void due(String what, long want, long got) {
        Check.due(what, want, got);
    }

    public static void main(String[] args) {
        tapeOf300();
        bytesOfNumbers();
        everyByte();
        everyTokenAtEveryPlace();
        wordsUnlikeInOneLetter();
        endsOfTexts();
        numbersInTests();
        numbersBehindPart();
        linesAtMostTwelve();
        testsAtMostFour();
        whichFaultCounts();
        longestTexts();
        testsAtTheirEdges();
        percentsCut();
        whichLineTells();
        Check.finish("EdgesOfTextTest");
    }

    /** The fault's number and place in one number; GOES_ON without a fault. */
    private static int faultOf(String text) {
        TicketsDrawn x = new TicketsDrawn();
        boolean fine = Check.terms(x, text) != NONE;
        due("the answer of terms() and the FAULT of " + text, fine ? 0 : 1, Math.min(1, x.fault(0)));
        due("the tape is empty after " + text, 0, Told.lengthOfTape(x));
        return fine ? GOES_ON : fault(x.fault(0), x.fault(1));
    }

    private static int fault(int number, int place) {
        return 1000 * number + place;
    }

    private static void taken(String text, int lines) {
        TicketsDrawn x = new TicketsDrawn();
        due("LINES of " + text, lines, Check.terms(x, text));
        due("no FAULT of " + text, 0, x.fault(0));
        due("no place of " + text, NONE, x.fault(1));
        due("LINES told of " + text, lines, x.count(7));
    }

    private static void refused(String text, int number, int place) {
        due("FAULT of " + text, fault(number, place), faultOf(text));
    }

    /** "THE TAPE has at most 300 bytes." */
    private static void tapeOf300() {
        for (int length = 0; length <= 300; length++) {
            TicketsDrawn x = new TicketsDrawn();
            for (int fed = 0; fed < 15; fed++) {
                x.feed(0x20202020, 0x20202020, 0x20202020, 0x20202020, 0x20202020);
            }
            due("TAPE: cut to " + length, length, x.end(length));
            due("TAPE: one more than " + length, NONE, x.end(length + 1));
            due("TAPE: fed at " + length, length <= 280 ? length + 20 : NONE, x.feed(1, 2, 3, 4, 5));
            due("TAPE: its length then, at " + length, length <= 280 ? length + 20 : length, Told.lengthOfTape(x));
        }
        TicketsDrawn y = Halls.withTape(281);
        y.feed(0x3b3b3b3b, 0x3b3b3b3b, 0x3b3b3b3b, 0x3b3b3b3b, 0x3b3b3b3b);
        due("TAPE: nothing came of what was refused", 1, y.terms());
        due("TAPE: it is empty then", 20, y.feed(0, 0, 0, 0, 0));
    }

    /** "twenty bytes come behind it, of each number the highest first" */
    private static void bytesOfNumbers() {
        for (int place = 0; place < 20; place++) {
            int[] five = new int[5];
            for (int k = 0; k < 20; k++) {
                five[k / 4] = five[k / 4] << 8 | (k == place ? 0xff : 0x20);
            }
            TicketsDrawn x = new TicketsDrawn();
            due("BYTES: twenty", 20, x.feed(five[0], five[1], five[2], five[3], five[4]));
            due("BYTES: byte 255 is no token", NONE, x.terms());
            due("BYTES: it stands at " + place, place, x.fault(1));
        }
        TicketsDrawn x = new TicketsDrawn();
        Check.feed(x, "part 5", 0);
        Check.feed(x, "0;", 6);
        due("BYTES: two feeds, one text", 1, x.terms());
    }

    /** "blanks (10, 32) between: WORDS, rows of letters a .. z; NUMBERS ..; signs : ; < > =" */
    private static void everyByte() {
        for (int b = 0; b < 256; b++) {
            char c = (char) b;
            boolean blank = b == 10 || b == 32;
            boolean letter = b >= 97 && b <= 122;
            boolean digit = b >= 48 && b <= 57;
            due("byte " + b + " before", blank ? GOES_ON : fault(1, 0), faultOf(c + "none;"));
            due("byte " + b + " behind a WORD", blank ? GOES_ON : fault(1, letter ? 0 : b == ';' ? 5 : 4),
                faultOf("none" + c + ";"));
            due("byte " + b + " behind a LINE", blank ? GOES_ON : fault(1, 5), faultOf("none;" + c));
            due("byte " + b + " in a NUMBER", digit ? fault(2, 5) : fault(1, blank || b == ';' ? 7 : 6),
                faultOf("part 5" + c + "0;"));
            due("byte " + b + " in a WORD", fault(1, b == 'n' ? 5 : 0), faultOf("no" + c + "e;;"));
        }
        taken("none\n;\n", 1);
        taken("part\n\n  \n5 ; part5;", 2);
        taken("if days<3and not size>2:none;", 1);
    }

    /** What goes on behind each beginning, and nothing else does: "with which no text goes on". */
    private static void everyTokenAtEveryPlace() {
        List<String> lineBegins = List.of("if", "part", "whole", "none");
        List<String> testBegins = List.of("not", "days", "price", "size", "row", "back");
        tokensBehind("", lineBegins);
        tokensBehind("none;", lineBegins);
        tokensBehind("if days<3: whole;", lineBegins);
        tokensBehind("if", testBegins);
        tokensBehind("if not", FACTS);
        for (String fact : FACTS) {
            tokensBehind("if " + fact, COMPARISONS);
            tokensBehind("if not " + fact, COMPARISONS);
        }
        for (String comparison : COMPARISONS) {
            tokensBehind("if size" + comparison, List.of("7", "999"));
        }
        tokensBehind("if days<3", List.of("and", ":"));
        tokensBehind("if days<3 and", testBegins);
        tokensBehind("if days<3 and not", FACTS);
        tokensBehind("if days<3 and row", COMPARISONS);
        tokensBehind("if days<3 and row=", List.of("7", "999"));
        tokensBehind("if days<3 and row=0", List.of("and", ":"));
        tokensBehind("if days<3:", ENDINGS);
        tokensBehind("part", List.of("7", "999"));
        tokensBehind("if days<3: part", List.of("7", "999"));
        for (String whole : List.of("part 7", "whole", "none", "if days<3:part 7", "if days<3:whole")) {
            tokensBehind(whole, List.of(";"));
        }
    }

    private static void tokensBehind(String begin, List<String> goOn) {
        List<String> tokens = List.of("if", "and", "not", "part", "whole", "none", "days", "price", "size", "row",
            "back", ":", ";", "<", ">", "=", "7", "999", "1000", "0007", "i", "ifs", "day", "dayss", "a", "z",
            "?", "IF", ",", "\t", "\u0000", "\u00ff");
        String before = begin.isEmpty() ? "" : begin + " ";
        for (String token : tokens) {
            // Something that never goes on stands behind, so that there always is a FAULT.
            String text = before + token + " #";
            int place = goOn.contains(token) ? text.length() - 1 : before.length();
            refused(text, 1, place);
        }
    }

    /** A WORD with another letter at any place, one less or one more, is no WORD of a text. */
    private static void wordsUnlikeInOneLetter() {
        String[][] words = {{"", "if"}, {"if days<3 ", "and"}, {"if ", "not"}, {"", "part"}, {"", "whole"}, {"", "none"},
            {"if ", "days"}, {"if ", "price"}, {"if ", "size"}, {"if ", "row"}, {"if ", "back"}};
        for (String[] one : words) {
            String word = one[1];
            refused(one[0] + word, 1, one[0].length() + word.length());
            for (int k = 0; k < word.length(); k++) {
                for (char c = 'a'; c <= 'z'; c++) {
                    String other = word.substring(0, k) + c + word.substring(k + 1);
                    boolean itself = other.equals(word);
                    refused(one[0] + other, 1, one[0].length() + (itself ? word.length() : 0));
                }
                refused(one[0] + word.substring(0, k) + word.substring(k + 1), 1, one[0].length());
                refused(one[0] + word.substring(0, k) + "e" + word.substring(k), 1, one[0].length());
            }
            refused(one[0] + word + "s", 1, one[0].length());
        }
    }

    /** "their places (a token's first byte; the end's)" */
    private static void endsOfTexts() {
        String[] texts = {"if", "if not", "if days", "if days<", "if days<3", "if days<3 and", "if days<3 and not",
            "if days<3:", "if days<3:part", "if days<3:part 5", "if days<3:whole", "part", "part 5", "whole", "none",
            "none;if", "part 101", "none;none"};
        for (String text : texts) {
            refused(text, 1, text.length());
            refused(text + " ", 1, text.length() + 1);
            refused(text + "\n  ", 1, text.length() + 3);
            refused(" " + text, 1, text.length() + 1);
            refused(text + " ".repeat(300 - text.length()), 1, 300);
        }
        taken("", 0);
        taken(" ", 0);
        taken("\n", 0);
        taken(" ".repeat(300), 0);
        taken("none;", 1);
        taken("none; ", 1);
    }

    /** "NUMBERS, 1 to 3 digits" .. "(a longer row of digits is no token)" */
    private static void numbersInTests() {
        for (String number : List.of("0", "9", "00", "10", "99", "000", "001", "100", "101", "998", "999")) {
            taken("if days<" + number + ":none;", 1);
        }
        for (String number : List.of("0000", "0001", "1000", "9999", "00000", "4294967296", "4294967299",
            "18446744073709551617", "9".repeat(100))) {
            refused("if days<" + number + ":none;", 1, 8);
            refused("if days< " + number, 1, 9);
        }
        refused("if days<:none;", 1, 8);
        refused("if days<1 2:none;", 1, 10);
    }

    /** "2 a NUMBER behind part above 100" */
    private static void numbersBehindPart() {
        for (int percent = 0; percent <= 999; percent++) {
            if (percent <= 100) {
                taken("part " + percent + ";", 1);
            } else {
                refused("part " + percent + ";", 2, 5);
            }
        }
        taken("part 000;part 00;part 007;part 099;part 100;", 5);
        refused("if row=1:part 101;", 2, 14);
        refused("part 100;part  101;", 2, 15);
        for (String number : List.of("1000", "0100", "0000", "4294967296", "4294967396", "100000000000")) {
            refused("part " + number + ";", 1, 5);
        }
        refused("part;", 1, 4);
        taken("if price>101 and price<999:part 100;", 1);
    }

    /** "3 one too many, at its first token: a 13th LINE" */
    private static void linesAtMostTwelve() {
        for (int lines = 0; lines <= 12; lines++) {
            taken("none;".repeat(lines), lines);
            taken("part 5;\n".repeat(lines), lines);
        }
        for (int lines = 13; lines <= 60; lines++) {
            refused("none;".repeat(lines), 3, 60);
        }
        String twelve = "none;".repeat(12);
        for (String line : List.of("none;", "whole;", "part 100;", "if row=1:none;", "if not row=1:none;")) {
            refused(twelve + line, 3, 60);
            refused(twelve + " \n" + line, 3, 62);
            refused(twelve + line.substring(0, line.length() - 1), 1, 60 + line.length() - 1);
        }
        taken(twelve + "  ", 12);
        taken("if row=1:none;".repeat(12), 12);
        refused("if row=1:none;".repeat(13), 3, 12 * 14);
    }

    /** "a 5th TEST of a LINE" */
    private static void testsAtMostFour() {
        String tests = "if row=1";
        for (int n = 1; n <= 4; n++) {
            taken(tests + ":none;", 1);
            tests += " and not row=1";
        }
        String four = "if row=1and row=1and row=1and row=1";
        refused(four + "and row=1:none;", 3, four.length() + 4);
        refused(four + " and  row=1:none;", 3, four.length() + 6);
        refused(four + "and not row=1:none;", 3, four.length() + 4);
        refused(four + "and row=1and row=1:none;", 3, four.length() + 4);
        refused(four + "and row=1:part 101;", 3, four.length() + 4);
        refused(four + "and row=1:none", 1, four.length() + 14);
        taken((four + ":none;").repeat(7), 7);
        taken(four + ":none;if row=1:none;" + four + ":whole;", 3);
        refused("none;" + four + "and row=1:none;", 3, 5 + four.length() + 4);
        refused(four + ":none;" + four + "and row=1:none;", 3, 2 * four.length() + 10);
    }

    /** "1 the first byte or token ..; If there is none, the first of: 2 ..; 3 .." */
    private static void whichFaultCounts() {
        String five = "if row=1and row=1and row=1and row=1and row=1";
        String thirteen = "none;".repeat(13);
        refused("part 101;#", 1, 9);
        refused(thirteen + "#", 1, 65);
        refused(five + ":none;#", 1, five.length() + 6);
        refused("part 101;part 1000;", 1, 14);
        refused("# part 101;", 1, 0);
        refused("# @", 1, 0);
        refused("none none none", 1, 5);
        refused("part 101;part 102;", 2, 5);
        refused("part 101;" + five + ":none;", 2, 5);
        refused(five + ":none;part 101;", 3, five.length() - 5);
        refused("part 101;" + thirteen, 2, 5);
        refused("none;".repeat(11) + "part 101;none;", 2, 60);
        refused("none;".repeat(12) + "part 101;", 3, 60);
        refused("none;".repeat(12) + five + ":none;", 3, 60);
        refused("none;".repeat(11) + five + ":none;none;", 3, 55 + five.length() - 5);
        TicketsDrawn x = new TicketsDrawn();
        due("no terms() yet: no FAULT", 0, x.fault(0));
        due("no terms() yet: no place", NONE, x.fault(1));
        Check.terms(x, "part 101;");
        due("the FAULT of the latest", fault(2, 5), fault(x.fault(0), x.fault(1)));
        Check.terms(x, "#");
        due("the FAULT of a later one", fault(1, 0), fault(x.fault(0), x.fault(1)));
        due("terms() of an empty tape", 0, x.terms());
        due("no FAULT of the latest", 0, x.fault(0));
        due("no place of the latest", NONE, x.fault(1));
    }

    private static void longestTexts() {
        taken("none;".repeat(12) + " ".repeat(240), 12);
        taken(" ".repeat(295) + "none;", 1);
        refused(" ".repeat(296) + "none", 1, 300);
        refused(" ".repeat(291) + "part 101;", 2, 296);
        refused(";".repeat(300), 1, 0);
        refused("a".repeat(300), 1, 0);
        refused("0".repeat(300), 1, 0);
        refused(" ".repeat(299) + "#", 1, 299);
        refused("if " + "row=1and ".repeat(33), 1, 300);
        refused("none;".repeat(59) + "none ", 1, 300);
    }

    /** One ask of a size in a row of a number and a price; so many are given back, so many days before. */
    private static int refund(String text, int days, int price, int size, int row, int back) {
        TicketsDrawn x = new TicketsDrawn();
        for (int r = 0; r < row; r++) {
            x.row(12, 999);
        }
        x.row(size, price);
        x.ask(size, price, 0, false);
        Check.terms(x, text);
        x.seat(1, 0);
        x.days(days);
        x.back(0, back);
        return x.tell(0, 6);
    }

    /** "TEST: ['not'] (..) ('<' | '>' | '=') NUMBER", of each fact at its least and its greatest */
    private static void testsAtTheirEdges() {
        int[][] cases = {{0, 0}, {0, 1}, {0, 30}, {1, 1}, {1, 2}, {1, 998}, {1, 999}, {2, 1}, {2, 2}, {2, 6}, {3, 0},
            {3, 1}, {3, 5}, {4, 1}, {4, 2}, {4, 6}};
        for (int[] one : cases) {
            for (int number = Math.max(0, one[1] - 1); number <= Math.min(999, one[1] + 1); number++) {
                for (String sign : COMPARISONS) {
                    boolean holds = sign.equals("<") ? one[1] < number : sign.equals(">") ? one[1] > number
                        : one[1] == number;
                    String test = FACTS.get(one[0]) + sign + number;
                    due(test + " of " + one[1], holds ? 0 : 1, refundBy(one[0], one[1], "if " + test + ":none;"));
                    due("not " + test + " of " + one[1], holds ? 1 : 0,
                        refundBy(one[0], one[1], "if not " + test + ":none;"));
                }
            }
        }
    }

    /** 1, if there was a refund, with one fact as told and the others unlike it. */
    private static int refundBy(int fact, int value, String text) {
        int days = fact == 0 ? value : 17;
        int price = fact == 1 ? value : 500;
        int size = fact == 2 ? value : 6;
        int row = fact == 3 ? value : 0;
        int back = fact == 4 ? value : 1;
        return refund(text, days, price, size, row, back) > 0 ? 1 : 0;
    }

    /** "so many percent of the PRICE, cut" */
    private static void percentsCut() {
        int[][] cases = {{1, 0, 0}, {1, 99, 0}, {1, 100, 1}, {2, 49, 0}, {2, 50, 1}, {2, 99, 1}, {3, 33, 0}, {3, 34, 1},
            {99, 1, 0}, {100, 1, 1}, {199, 1, 1}, {200, 1, 2}, {999, 0, 0}, {999, 1, 9}, {999, 50, 499}, {999, 99, 989},
            {999, 100, 999}};
        for (int[] one : cases) {
            String text = "part " + one[1] + ";";
            due(text + " of " + one[0], one[2], refund(text, 30, one[0], 1, 0, 1));
            due(text + " of " + one[0] + ", each of six is cut", 6 * one[2], refund(text, 30, one[0], 6, 0, 6));
        }
    }

    /** "The first LINE whose TESTS all hold tells: part: that, whole: 100, none: 0; 100 if none does." */
    private static void whichLineTells() {
        String[] texts = {"", "whole;", "none;", "part 7;", "none;whole;", "whole;none;", "if size=1:none;",
            "if size=6:none;whole;", "if size=6 and row=1:none;part 8;", "if row=1 and size=6:none;part 8;",
            "if size=6 and row=0 and back=1 and days=30:part 3;none;",
            "if size=6 and row=0 and back=1 and days=29:part 3;none;",
            "if size=1:none;".repeat(11) + "part 9;", "if size=1:none;".repeat(12),
            "if size=1:none;".repeat(11) + "if size=6 and row=0 and back=1 and days=30:part 4;",
            "if size=1:none;".repeat(11) + "if not size=1 and not row=1 and not back=2 and not days=29:part 6;",
            "if size=6 and row=0 and back=1 and days=29:none;if size=6 and row=0 and back=1 and days=30:part 5;",
            "if size=6 and row=0 and back=1 and days=29:none;if size=5 and row=0 and back=1 and days=30:part 5;"};
        int[] refunds = {100, 100, 0, 7, 0, 100, 100, 0, 8, 8, 3, 0, 9, 100, 4, 6, 5, 100};
        for (int k = 0; k < texts.length; k++) {
            due("REFUND by " + texts[k], refunds[k], refund(texts[k], 30, 100, 6, 0, 1));
        }
        termsAfterTerms();
        TicketsDrawn x = Halls.of(1, 6, 1, 6);
        Check.terms(x, "part 50;");
        x.seat(1, 0);
        Check.terms(x, "none;;");
        x.back(0, 1);
        due("REFUND: the TERMS before a FAULT", 5, x.tell(0, 6));
        Check.terms(x, "part 20;");
        x.back(0, 1);
        due("REFUND: by new TERMS from then on", 7, x.tell(0, 6));
        x.terms();
        x.back(0, 1);
        due("REFUND: whole by an empty text", 17, x.tell(0, 6));
        x.clear();
        Check.terms(x, "part 30;");
        x.clear();
        x.seat(1, 0);
        x.back(0, 6);
        due("REFUND: TERMS stay through clear()", 18, x.tell(0, 6));
    }

    /** TESTS of a text before, with or without a FAULT, are none of the next one's. */
    private static void termsAfterTerms() {
        String before = "if row>5:none;".repeat(11);
        String[] firsts = {"if size=1:none;", "if size=1 and row=1 and row=2 and row=3:none;", before + "if size=1:none;",
            "if size=1 and row=1", before + "if size=1:none;part 5;"};
        for (String first : firsts) {
            TicketsDrawn x = Halls.of(1, 6, 1, 6);
            x.seat(1, 0);
            Check.terms(x, first);
            due("one LINE behind " + first, 1, Check.terms(x, "part 10;"));
            x.back(0, 1);
            due("it holds behind " + first, 1, x.tell(0, 6));
            due("twelve LINES behind " + first, 12, Check.terms(x, before + "part 20;"));
            x.back(0, 1);
            due("the last holds behind " + first, 3, x.tell(0, 6));
        }
    }
}
