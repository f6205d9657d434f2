import java.io.IOException;
import java.nio.file.Files;
import java.nio.file.Path;
import java.util.ArrayList;
import java.util.List;
import java.util.regex.Matcher;
import java.util.regex.Pattern;

/** A walk through a part of the document: its words are quoted one after the other, and none is left out. */
abstract class Document {
    private static final Path PLACE = Path.of("../shared/DOC.md");
    private static final Pattern SIGNATURE = Pattern.compile("`([^`]*\\))`: (.*)");

    private final String words;
    private int at = 0;
    private String quoted = "";

    /** The part from one heading on, up to another, that one left out; null: to the end. */
    Document(String from, String to) throws IOException {
        List<String> lines = Files.readAllLines(PLACE);
        int first = lines.indexOf(from);
        int behind = to == null ? lines.size() : lines.indexOf(to);
        boolean found = first >= 0 && behind > first;
        Check.due("the document has " + from + " before " + to, true, found);
        words = found ? wordsOf(lines.subList(first, behind)) : "";
    }

    /** Headings, code and the calls' signatures are no sentences. */
    private static String wordsOf(List<String> lines) {
        List<String> kept = new ArrayList<>();
        boolean inCode = false;
        for (String line : lines) {
            if (line.startsWith("```")) {
                inCode = line.equals("```java");
            } else if (!inCode && !line.startsWith("#") && !line.isBlank()) {
                Matcher signature = SIGNATURE.matcher(line);
                String sentence = signature.matches() ? signature.group(2) : line;
                kept.add(sentence.strip().replaceFirst("^\\d\\. ", ""));
            }
        }
        return String.join(" ", kept);
    }

    /** The face as its code block has it, and as the promises' lines have it. */
    static List<String> face() throws IOException {
        List<String> found = new ArrayList<>();
        for (String line : Files.readAllLines(PLACE)) {
            if (line.startsWith("    public ")) {
                found.add(line.strip().replace("public ", "").replace(";", ""));
            }
        }
        return found;
    }

    static List<String> signatures() throws IOException {
        List<String> found = new ArrayList<>();
        for (String line : Files.readAllLines(PLACE)) {
            Matcher signature = SIGNATURE.matcher(line);
            if (signature.matches()) {
                found.add(signature.group(1));
            }
        }
        return found;
    }

    final void says(String quote) {
        boolean next = words.startsWith(quote, at);
        String there = words.substring(at, Math.min(words.length(), at + quote.length()));
        Check.due("the document has \"" + there + "\" where it is quoted: " + quote, true, next);
        int found = words.indexOf(quote, at);
        at = Math.min(words.length(), found < 0 ? at : found + quote.length() + 1);
        quoted = quote;
    }

    final void allIsQuoted() {
        Check.due("what is not quoted of the document", "", words.substring(at));
    }

    final void due(String what, long want, long got) {
        Check.due(quoted + " " + what, want, got);
    }

    final void due(String what, boolean want, boolean got) {
        Check.due(quoted + " " + what, want, got);
    }

    final void due(String what, String want, String got) {
        Check.due(quoted + " " + what, want, got);
    }
}
