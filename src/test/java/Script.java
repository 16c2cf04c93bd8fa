import java.lang.reflect.InvocationTargetException;
import java.lang.reflect.Method;
import java.lang.reflect.Modifier;
import java.util.ArrayList;
import java.util.Arrays;
import java.util.HashMap;
import java.util.HashSet;
import java.util.List;
import java.util.Map;
import java.util.Set;

/**
 * A run of calls on one new object, told by rows of text:
 *
 * <pre>
 *   list 0 3 = 8         a call and its due answer (a number or a finding's name)
 *   go 5                 a call that must answer anything but a finding
 *   say 'law 1' = 1      a text is fed to the tape and read
 *   tape 'law' = 3       a text is fed: how many bytes the tape has then
 *   row 0 8: 1 2 3       a sheet is laid and written
 * </pre>
 *
 * Behind each call that is due to answer a finding, and each that only looks, the object is held
 * against another one that was never asked: nothing but status() may differ.
 */
final class Script {
    private static final int MOST_CALLS = 512;
    private static final List<String> FINDINGS =
            List.of("BEYOND", "FULL", "KIND", "NONE", "STATE", "MISSING", "SIZE");
    private static final Set<String> ONLY_LOOK = new HashSet<>(Arrays.asList("listed", "of", "ofShip",
            "thick", "now", "ahead", "later", "fog", "lands", "closes", "settled", "finishFor",
            "kindFor", "eyesFor", "speedFor", "decide", "fits", "kinds", "odds", "as", "judge",
            "count", "status"));
    private static final Map<String, Method> FACE = face();

    private final VaguePort port = new VaguePort();
    private final boolean mayGoOn;
    private int calls = 0;

    private Script(boolean mayGoOn) {
        this.mayGoOn = mayGoOn;
    }

    private static Map<String, Method> face() {
        Map<String, Method> face = new HashMap<>();
        for (Method m : VaguePort.class.getDeclaredMethods()) {
            if (Modifier.isPublic(m.getModifiers())) {
                face.put(m.getName(), m);
            }
        }
        return face;
    }

    /** What is wrong with a run, row by row; only one that may go on makes more than 512 calls. */
    static List<String> faults(List<String> rows, boolean mayGoOn) {
        List<String> faults = new ArrayList<>();
        Script script = new Script(mayGoOn);
        for (int i = 0; i < rows.size(); i++) {
            String row = rows.get(i);
            long got = script.perform(row);
            String due = due(row);
            if (due == null ? findingOf(row, got) >= 0 : got != number(due)) {
                faults.add(row + " answered " + got);
            } else if (findingOf(row, got) >= 0 || ONLY_LOOK.contains(name(row))) {
                compare(rows.subList(0, i), row, findingOf(row, got), mayGoOn, faults);
            }
        }
        return faults;
    }

    private static void compare(List<String> before, String row, int finding, boolean mayGoOn,
            List<String> faults) {
        Script asked = new Script(mayGoOn);
        Script unasked = new Script(mayGoOn);
        for (String earlier : before) {
            asked.perform(earlier);
            unasked.perform(earlier);
        }
        asked.perform(row);
        long[] due = unasked.statuses();
        if (finding >= 0) {
            due[0]++;
            due[1 + finding]++;
        }
        if (!Arrays.equals(due, asked.statuses())) {
            faults.add(row + " is not counted as it should be");
        }
        List<String> is = asked.lookAtAll();
        List<String> was = unasked.lookAtAll();
        for (int i = 0; i < Math.min(is.size(), was.size()); i++) {
            if (!is.get(i).equals(was.get(i))) {
                faults.add(row + " changed " + was.get(i) + " to " + is.get(i));
                return;
            }
        }
        if (is.size() != was.size()) {
            faults.add(row + " changed how much there is to be seen");
        }
    }

    private static String name(String row) {
        return row.split(" ")[0];
    }

    private static String due(String row) {
        int at = row.lastIndexOf(" = ");
        return at < 0 ? null : row.substring(at + 3);
    }

    private static long number(String word) {
        if (FINDINGS.contains(word)) {
            return -1000001 - FINDINGS.indexOf(word);
        }
        if (word.equals("MIN") || word.equals("MAX")) {
            return word.equals("MIN") ? Integer.MIN_VALUE : Integer.MAX_VALUE;
        }
        return Long.parseLong(word);
    }

    /** Which finding it is, -1 if none; what z was or is may be any number and is none. */
    private static int findingOf(String row, long answer) {
        boolean tellsZ = name(row).equals("seed") || row.startsWith("count 6");
        return answer < -1000000 && !tellsZ ? (int) (-1000001 - answer) : -1;
    }

    private long perform(String row) {
        String call = due(row) == null ? row : row.substring(0, row.lastIndexOf(" = "));
        if (call.startsWith("say ") || call.startsWith("tape ")) {
            feed(call.substring(call.indexOf('\'') + 1, call.lastIndexOf('\'')));
            return call.startsWith("say ") ? call("text") : call("count", 5);
        }
        if (call.startsWith("row ")) {
            return lay(call.substring(4));
        }
        String[] words = call.split(" ");
        int[] args = new int[words.length - 1];
        for (int i = 0; i < args.length; i++) {
            args[i] = (int) number(words[i + 1]);
        }
        return call(words[0], args);
    }

    private void feed(String text) {
        for (int i = 0; i < text.length(); i += 4) {
            int n = Math.min(4, text.length() - i);
            int bytes = 0;
            for (int k = 0; k < n; k++) {
                bytes = bytes << 8 | text.charAt(i + k);
            }
            call("feed", bytes, n);
        }
    }

    private long lay(String told) {
        String[] head = told.substring(0, told.indexOf(':')).split(" ");
        String rest = told.substring(told.indexOf(':') + 1).trim();
        String[] numbers = rest.isEmpty() ? new String[0] : rest.split(" ");
        int s = Integer.parseInt(head[0]);
        long answer = call("sheet", s, Integer.parseInt(head[1]), numbers.length);
        for (int i = 0; i < numbers.length; i++) {
            call("write", s, i, (int) number(numbers[i]));
        }
        return answer;
    }

    private long call(String name, int... args) {
        calls++;
        if (calls > MOST_CALLS && !mayGoOn) {
            throw new AssertionError("a run of more than 512 calls tells nothing");
        }
        try {
            Object[] boxed = Arrays.stream(args).boxed().toArray();
            return ((Number) FACE.get(name).invoke(port, boxed)).longValue();
        } catch (InvocationTargetException e) {
            throw new AssertionError(name + Arrays.toString(args) + " threw", e.getCause());
        } catch (IllegalAccessException e) {
            throw new AssertionError(e);
        }
    }

    private long[] statuses() {
        long[] all = new long[8];
        for (int i = 0; i < 8; i++) {
            all[i] = call("status", i - 1);
        }
        return all;
    }

    /** All that can be seen of the object, which is spoilt by it: the last look at it. */
    private List<String> lookAtAll() {
        List<String> seen = new ArrayList<>();
        lookAtEstuary(seen);
        see(seen, "count", 5);
        for (int s = 0; s < 4; s++) {
            lookAtSheet(seen, s);
        }
        see(seen, "text");
        for (int what = 1; what < 4; what++) {
            see(seen, "count", what);
        }
        for (int i = 0; i < 6; i++) {
            see(seen, "listed", i);
        }
        see(seen, "undo");
        lookAtEstuary(seen);
        see(seen, "tear");
        return seen;
    }

    private long see(List<String> seen, String name, int... args) {
        long answer = call(name, args);
        seen.add(name + Arrays.toString(args) + " = " + answer);
        return answer;
    }

    private void lookAtEstuary(List<String> seen) {
        see(seen, "count", 0);
        see(seen, "count", 6);
        long sayings = see(seen, "count", 1);
        long ships = see(seen, "count", 2);
        for (int s = 0; s < sayings; s++) {
            for (int what = 0; what < 5; what++) {
                see(seen, "of", s, what);
            }
        }
        for (int s = 0; s < ships; s++) {
            for (int what = 0; what < 4; what++) {
                see(seen, "ofShip", s, what);
            }
        }
        for (int i = 0; i < 6; i++) {
            see(seen, "listed", i);
        }
        for (int spot = 0; spot < 10; spot++) {
            see(seen, "as", spot, 0);
        }
    }

    /** How many numbers, the first of them (so far as a saying can be so vague), how many bits. */
    private void lookAtSheet(List<String> seen, int s) {
        if (see(seen, "judge", s) == number("MISSING")) {
            return;
        }
        if (call("count", 1) == 0) {
            call("saying", 0, 0, 0);
        }
        int size = 0;
        for (int step = 32; step > 0; step /= 2) {
            size += call("copy", s, 0, s, 0, size + step) > 0 ? step : 0;
        }
        seen.add("sheet " + s + " has " + size);
        for (int i = 0; i < Math.min(size, 8); i++) {
            call("copy", s, i, s, 0, 1);
            see(seen, "load", s);
            see(seen, "of", 0, 2);
        }
        for (int v = 65536 + 5; v >= 256 + 5 && size > 0; v -= 65536 - 256) {
            call("write", s, 0, v);
            see(seen, "load", s);
        }
    }
}
