import java.util.Random;

/** Texts by the grammar, some with too much in them, some with a byte or token spoiled. */
final class RandomTerms {
    private static final String[] FACTS = {"days", "price", "size", "row", "back"};
    private static final String[] WORDS = {"if", "and", "not", "part", "whole", "none", "days", "row",
        ":", ";", "<", ">", "=", "7", "1234", "ifs", "A", "?", "\t", "\u00e9", "0", " ", "\n"};

    private final Random random;

    RandomTerms(Random random) {
        this.random = random;
    }

    String text() {
        StringBuilder text = new StringBuilder();
        int lines = random.nextInt(6) == 0 ? 10 + random.nextInt(5) : random.nextInt(5);
        boolean brief = lines > 6;
        for (int k = 0; k < lines; k++) {
            text.append(blank());
            if (!brief || random.nextInt(6) == 0) {
                addTests(text);
            }
            addEnding(text);
            text.append(blank()).append(';');
        }
        text.append(blank());
        spoil(text);
        return text.toString();
    }

    private String blank() {
        int n = random.nextInt(12);
        return n == 0 ? "\n" : n < 3 ? " " : "";
    }

    private String gap() {
        return random.nextInt(25) == 0 ? "" : random.nextInt(6) == 0 ? " \n" : " ";
    }

    private void addTests(StringBuilder text) {
        int tests = random.nextInt(8) == 0 ? 4 + random.nextInt(2) : random.nextInt(4);
        for (int i = 0; i < tests; i++) {
            text.append(i == 0 ? "if" : "and").append(gap());
            if (random.nextInt(4) == 0) {
                text.append("not").append(gap());
            }
            String fact = FACTS[random.nextInt(5)];
            text.append(fact).append(blank()).append("<>=".charAt(random.nextInt(3)));
            text.append(blank()).append(numberFor(fact)).append(i + 1 < tests ? gap() : blank());
        }
        if (tests > 0) {
            text.append(':').append(blank());
        }
    }

    private String numberFor(String fact) {
        int number = fact.equals("days") ? random.nextInt(32) : fact.equals("price") ? 8 + random.nextInt(60)
            : random.nextInt(5);
        return random.nextInt(12) == 0 ? String.format("%03d", number) : Integer.toString(number);
    }

    private void addEnding(StringBuilder text) {
        int kind = random.nextInt(5);
        if (kind == 0) {
            text.append("whole");
        } else if (kind == 1) {
            text.append("none");
        } else {
            int percent = random.nextInt(12) == 0 ? 95 + random.nextInt(12) : random.nextInt(101);
            text.append("part").append(gap()).append(percent);
        }
    }

    private void spoil(StringBuilder text) {
        if (text.length() == 0 || random.nextInt(3) > 0) {
            return;
        }
        int at = random.nextInt(text.length());
        switch (random.nextInt(4)) {
            case 0: text.deleteCharAt(at); break;
            case 1: text.setLength(at); break;
            case 2: text.setCharAt(at, (char) random.nextInt(256)); break;
            default: text.insert(at, WORDS[random.nextInt(WORDS.length)]); break;
        }
    }
}
