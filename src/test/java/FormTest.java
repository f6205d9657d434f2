import java.lang.reflect.Constructor;
import java.lang.reflect.Field;
import java.lang.reflect.Member;
import java.lang.reflect.Method;
import java.lang.reflect.Modifier;
import java.nio.file.Files;
import java.nio.file.Path;
import java.util.Set;
import java.util.TreeSet;
import java.util.regex.Matcher;
import java.util.regex.Pattern;

/** The public face as the document has it, and rules of LANGUAGE.md that the source shows. */
public final class FormTest {
    private static final String SOURCE = "src/main/java/TicketsDrawn.java";

    private static final String[] FACE = {
        "int row(int,int)", "int ask(int,int,int,boolean)", "int seat(int,int)", "void clear()",
        "int would(int,int)", "int share(int)", "int turn(int,int)", "int heap(int)",
        "boolean alike(int,int)", "boolean days(int)", "int feed(int,int,int,int,int)", "int end(int)",
        "int terms()", "int fault(int)", "int back(int,int)", "boolean door(int,int)", "int at(int,int)",
        "int tell(int,int)", "int seats(int,int)", "int about(int,int)", "int count(int)",
        "boolean image(int)", "boolean again(int)"
    };

    public static void main(String[] args) throws Exception {
        face();
        insides();
        source(bare(Files.readString(Path.of(SOURCE))));
        Check.finish("FormTest");
    }

    private static boolean isPrivate(Member member) {
        return Modifier.isPrivate(member.getModifiers()) || member.isSynthetic();
    }

    private static void face() {
        Class<?> c = TicketsDrawn.class;
        Check.due("the class is public and final", Modifier.PUBLIC | Modifier.FINAL, c.getModifiers());
        Set<String> found = new TreeSet<>();
        for (Method method : c.getDeclaredMethods()) {
            if (!isPrivate(method)) {
                Check.due(method + " is public alone", Modifier.PUBLIC, method.getModifiers());
                found.add(told(method));
            }
        }
        for (String method : FACE) {
            Check.due("there is " + method, true, found.remove(method));
        }
        Check.due("no others: " + found, 0, found.size());
        for (Field field : c.getDeclaredFields()) {
            Check.due(field + " is private", !field.getName().equals("NONE"), isPrivate(field));
        }
        int shown = 0;
        for (Constructor<?> constructor : c.getDeclaredConstructors()) {
            shown += isPrivate(constructor) ? 0 : 1;
            Check.due("it takes nothing", 0, constructor.getParameterCount());
        }
        Check.due("one constructor", 1, shown);
    }

    private static String told(Method method) {
        StringBuilder text = new StringBuilder(method.getReturnType().getName());
        text.append(' ').append(method.getName()).append('(');
        for (Class<?> type : method.getParameterTypes()) {
            text.append(text.charAt(text.length() - 1) == '(' ? "" : ",").append(type.getName());
        }
        return text.append(')').toString();
    }

    private static void insides() {
        Set<String> faceNames = new TreeSet<>();
        for (String method : FACE) {
            faceNames.add(method.substring(method.indexOf(' ') + 1, method.indexOf('(')));
        }
        Class<?>[] inside = TicketsDrawn.class.getDeclaredClasses();
        Check.due("at most twelve classes", true, inside.length + 1 <= 12);
        for (Class<?> c : inside) {
            Check.due(c + " is static", true, Modifier.isStatic(c.getModifiers()));
            for (Method method : c.getDeclaredMethods()) {
                Check.due(method + " has no name of the face", false, faceNames.contains(method.getName()));
                Check.due(method + " takes seven at most", true, method.getParameterCount() <= 7);
            }
            int fields = 0;
            for (Field field : c.getDeclaredFields()) {
                boolean isStatic = Modifier.isStatic(field.getModifiers());
                Check.due(field + " is final if static", true, !isStatic || Modifier.isFinal(field.getModifiers()));
                fields += isStatic ? 0 : 1;
            }
            Check.due(c + " has twenty fields at most", true, fields <= 20);
        }
    }

    /** The source without comments and texts. */
    private static String bare(String source) {
        return source.replaceAll("(?s)/\\*.*?\\*/", "").replaceAll("//[^\n]*", "").replaceAll("\"[^\"\n]*\"", "\"\"");
    }

    private static void source(String text) {
        String[] refused = {"throw", "throws", "try", "catch", "finally", "synchronized", "assert", "import",
            "package", "protected", "volatile", "native", "var", "equals", "hashCode", "toString"};
        for (String word : refused) {
            Check.due("no " + word, false, Pattern.compile("\\b" + word + "\\b").matcher(text).find());
        }
        Check.due("no lambda", false, text.contains("->"));
        Check.due("no method reference", false, text.contains("::"));
        Check.due("signs 1 to 127 alone", true, text.chars().allMatch(c -> c > 0 && c < 128));
        noObjectsBehindConstructors(text);
        shortMethods(text);
    }

    /** 'new' stands in field initialisers and in the constructor alone: calls make nothing. */
    private static void noObjectsBehindConstructors(String text) {
        int end = text.indexOf("public int row(");
        for (String line : text.substring(end).split("\n")) {
            Check.due("a field's: " + line.trim(), true,
                !line.matches(".*\\bnew\\b.*") || line.matches(".*\\bfinal\\b.* = new .*"));
        }
        Check.due("no copies", false, text.contains("clone(") || text.contains("copyOf("));
    }

    private static void shortMethods(String text) {
        Matcher head = Pattern.compile("(?m)^( +)[a-zA-Z][^=;\n]*\\([^;\n]*\\) \\{$").matcher(text);
        while (head.find()) {
            int close = text.indexOf("\n" + head.group(1) + "}", head.start());
            long lines = text.substring(head.start(), Math.max(head.start(), close)).lines().count();
            Check.due("sixty lines at most: " + head.group().trim(), true, close >= 0 && lines <= 60);
        }
    }
}
