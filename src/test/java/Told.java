import java.util.ArrayList;
import java.util.LinkedHashMap;
import java.util.LinkedHashSet;
import java.util.List;
import java.util.Map;
import java.util.Set;

/**
 * What an object tells, a line a call, so that two objects can be held against one another. Looking at a
 * full hall and using it up takes some 430 calls: an object is good for 512.
 */
final class Told {
    private final TicketsDrawn x;
    private final List<String> lines = new ArrayList<>();

    private Told(TicketsDrawn x) {
        this.x = x;
    }

    private long put(String call, long answer) {
        lines.add(call + " = " + answer);
        return answer;
    }

    private void put(String call, boolean answer) {
        put(call, answer ? 1 : 0);
    }

    /** All that calls tell which leave the object as it is. */
    static List<String> looked(TicketsDrawn x) {
        Told told = new Told(x);
        told.counts();
        told.rows();
        told.asks();
        told.turns();
        told.put("the tape's length", lengthOfTape(x));
        return told.lines;
    }

    /** What is told otherwise after a call than before it: "count(8) 30>7"; '-' where it was not told. */
    static String changed(TicketsDrawn x, Runnable call) {
        Map<String, String> before = answers(looked(x));
        call.run();
        Map<String, String> after = answers(looked(x));
        Set<String> asked = new LinkedHashSet<>(before.keySet());
        asked.addAll(after.keySet());
        List<String> changes = new ArrayList<>();
        for (String one : asked) {
            String was = before.getOrDefault(one, "-");
            String is = after.getOrDefault(one, "-");
            if (!was.equals(is)) {
                changes.add(one + " " + was + ">" + is);
            }
        }
        return String.join("; ", changes);
    }

    private static Map<String, String> answers(List<String> lines) {
        Map<String, String> answers = new LinkedHashMap<>();
        for (String line : lines) {
            int equals = line.indexOf(" = ");
            answers.put(line.substring(0, equals), line.substring(equals + 3));
        }
        return answers;
    }

    /** What it does then: its terms, its tape, its images; the object is used up by this. */
    static List<String> usedUp(TicketsDrawn x) {
        Told told = new Told(x);
        int asks = x.count(1);
        for (int a = 0; a < asks; a++) {
            told.put("back(" + a + ", 1)", x.back(a, 1));
            told.put("then tell(" + a + ", 6)", x.tell(a, 6));
        }
        told.put("terms()", x.terms());
        told.counts();
        for (int k = 0; k < 3; k++) {
            told.put("again(" + k + ")", x.again(k));
            told.counts();
        }
        return told.lines;
    }

    /** No call tells it: a feed that fits does, or the first end() that is taken. */
    static int lengthOfTape(TicketsDrawn x) {
        int more = x.feed(0, 0, 0, 0, 0);
        if (more != TicketsDrawn.NONE) {
            return x.end(more - 20);
        }
        int length = 300;
        while (length > 0 && x.end(length) == TicketsDrawn.NONE) {
            length--;
        }
        return length;
    }

    private void counts() {
        for (int what = 0; what <= 10; what++) {
            put("count(" + what + ")", x.count(what));
        }
        put("fault(0)", x.fault(0));
        put("fault(1)", x.fault(1));
    }

    private void rows() {
        int rows = x.count(0);
        for (int r = 0; r < rows; r++) {
            long seats = put("about(" + r + ", 0)", x.about(r, 0));
            for (int what = 1; what < 4; what++) {
                put("about(" + r + ", " + what + ")", x.about(r, what));
            }
            for (int s = 0; s < seats; s++) {
                put("at(" + r + ", " + s + ")", x.at(r, s));
            }
        }
    }

    private void asks() {
        int asks = x.count(1);
        for (int a = 0; a < asks; a++) {
            long held = put("tell(" + a + ", 4)", x.tell(a, 4));
            for (int what = 0; what < 8; what++) {
                put("tell(" + a + ", " + what + ")", x.tell(a, what));
            }
            for (int k = 0; k < held; k++) {
                put("seats(" + a + ", " + k + ")", x.seats(a, k));
            }
            put("heap(" + a + ")", x.heap(a));
            put("share(" + a + ")", x.share(a));
        }
        put("alike(0, 1)", x.alike(0, 1));
    }

    private void turns() {
        int asks = x.count(1);
        for (int place = 0; place < asks; place++) {
            put("turn(0, " + place + ")", x.turn(0, place));
        }
        for (int way = 0; way < 3; way++) {
            put("would(" + way + ", 0)", x.would(way, 0));
        }
    }
}
