import java.io.ByteArrayOutputStream;
import java.lang.reflect.Method;
import java.lang.reflect.Modifier;
import java.nio.charset.StandardCharsets;
import java.nio.file.Files;
import java.nio.file.Path;
import java.util.ArrayList;
import java.util.List;
import java.util.Set;
import java.util.TreeSet;
import java.util.regex.Matcher;
import java.util.regex.Pattern;
import java.util.stream.Stream;
import javax.tools.ToolProvider;

/** What README.md shows of the use of the class, compiled and run as it stands, with the answers that it names. */
public final class ReadmeTest {
    private static final String MADE = "ReadmeUse";
    private static final Pattern NEW_OBJECT = Pattern.compile("TicketsDrawn x = new TicketsDrawn\\(\\);");
    private static final Pattern CLEAR = Pattern.compile("x\\.clear\\(\\);");
    private static final Pattern CALL =
        Pattern.compile("(x\\.(\\w+)\\(([^()]*)\\));\\s*// (-?\\d+|true|false)(?:: (.*))?");

    public static void main(String[] args) throws Exception {
        String readme = Files.readString(Path.of("README.md"));
        List<String> lines = shownLines(readme);
        Check.due("README shows calls", true, lines.size() > 23);
        namesEveryCall(lines);
        feedsSayTheirText(lines);
        namesEveryTest(readme);
        run(program(lines));
        Check.finish("ReadmeTest");
    }

    /** The lines of all java blocks: they are one run. */
    private static List<String> shownLines(String readme) {
        List<String> lines = new ArrayList<>();
        boolean inside = false;
        for (String line : readme.lines().toList()) {
            if (line.startsWith("```")) {
                inside = line.equals("```java");
            } else if (inside && !line.isBlank()) {
                lines.add(line);
            }
        }
        return lines;
    }

    private static void namesEveryCall(List<String> lines) {
        for (Method method : TicketsDrawn.class.getDeclaredMethods()) {
            String call = "x." + method.getName() + "(";
            boolean shown = lines.stream().anyMatch(line -> line.startsWith(call));
            Check.due("README shows " + call + ")", Modifier.isPublic(method.getModifiers()), shown);
        }
    }

    /** The text that a remark quotes is the one that the numbers are made of, but for blanks behind it. */
    private static void feedsSayTheirText(List<String> lines) {
        for (String line : lines) {
            Matcher call = CALL.matcher(line);
            if (call.matches() && call.group(2).equals("feed")) {
                String remark = String.valueOf(call.group(5));
                String text = bytesOf(call.group(3).split(", "));
                String quoted = remark.replaceAll("\"", "");
                Check.due("README's bytes of " + line, text, quoted + " ".repeat(Math.max(0, 20 - quoted.length())));
            }
        }
    }

    private static String bytesOf(String[] numbers) {
        ByteArrayOutputStream bytes = new ByteArrayOutputStream();
        for (String number : numbers) {
            int n = Integer.decode(number);
            for (int shift = 24; shift >= 0; shift -= 8) {
                bytes.write(n >> shift);
            }
        }
        return bytes.toString(StandardCharsets.ISO_8859_1);
    }

    /** Those that there are, and no others. */
    private static void namesEveryTest(String readme) throws Exception {
        Set<String> named = new TreeSet<>();
        Matcher name = Pattern.compile("`(\\w+Test)`").matcher(readme);
        while (name.find()) {
            named.add(name.group(1));
        }
        Set<String> found = new TreeSet<>();
        try (Stream<Path> files = Files.list(Path.of("src/test/java"))) {
            files.map(file -> file.getFileName().toString()).filter(file -> file.endsWith("Test.java"))
                .forEach(file -> found.add(file.replace(".java", "")));
        }
        Check.due("README names the tests", found.toString(), named.toString());
    }

    /** Every call that answers has to name its answer, or README shows what nobody tries. */
    private static String program(List<String> lines) {
        StringBuilder text = new StringBuilder("final class " + MADE + " {\n    static void run() {\n");
        for (String line : lines) {
            Matcher call = CALL.matcher(line);
            boolean answers = call.matches();
            boolean plain = NEW_OBJECT.matcher(line).matches() || CLEAR.matcher(line).matches();
            Check.due("README names the answer of " + line, true, answers || plain);
            if (answers) {
                text.append("Check.due(\"README: ").append(call.group(1)).append("\", ");
                text.append(call.group(4)).append(", ").append(call.group(1)).append(");\n");
            } else if (plain) {
                text.append(line).append('\n');
            }
        }
        return text.append("    }\n}\n").toString();
    }

    /** Beside the other classes, so that it may use Check as they do. */
    private static void run(String program) throws Exception {
        Path out = Path.of(System.getProperty("java.class.path"));
        Path source = out.resolve(MADE + ".java");
        Files.writeString(source, program);
        int code = ToolProvider.getSystemJavaCompiler().run(null, null, null, "-Xlint:all", "-Werror",
            "-cp", out.toString(), "-d", out.toString(), source.toString());
        Check.due("README compiles", 0, code);
        if (code == 0) {
            Class.forName(MADE).getDeclaredMethod("run").invoke(null);
        }
    }
}
