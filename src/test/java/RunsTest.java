import java.lang.reflect.InvocationTargetException;
import java.lang.reflect.Method;
import java.util.ArrayList;
import java.util.Arrays;
import java.util.Comparator;
import java.util.HashMap;
import java.util.List;
import java.util.Map;
import java.util.Random;

/** Long runs of calls, drawn from a fixed seed, each answer held against the model's. */
public final class RunsTest {
    private static final int RUNS = 1500;
    private static final int CALLS = 512;
    private static final int[] ODD = {Integer.MIN_VALUE, -1000001, -2, -1, 0, 1, 2, 3, 4, 5, 6, 7, 8,
        9, 10, 15, 16, 17, 20, 21, 40, 41, 60, 61, 99, 100, 101, 999, 1000, 9999, 10000,
        Integer.MAX_VALUE};
    private static final String[] WORDS = {"saying", "promise", "sermon", "will", "engagement",
        "plain", "law", "ship", "finish", "finished", "at", "said", "sees", "fast", "laws", "x"};

    private final Random random;
    private final VaguePort port = new VaguePort();
    private final Model model = new Model();
    private final List<String> told = new ArrayList<>();
    private int left = CALLS;
    private boolean isRight = true;

    private static final Map<String, Method> FACE = new HashMap<>();
    private static final Map<String, Integer> GOOD = new HashMap<>();
    private static final List<String> NAMES = new ArrayList<>();

    private RunsTest(long seed) {
        random = new Random(seed);
    }

    private int below(int n) {
        return random.nextInt(n);
    }

    private long call(String name, int... args) {
        if (left == 0 || !isRight) {
            return 0;
        }
        left--;
        Object[] boxed = Arrays.stream(args).boxed().toArray();
        long due = model.call(name, args);
        String row = name + Arrays.toString(args);
        try {
            long got = ((Number) FACE.get(name).invoke(port, boxed)).longValue();
            told.add(row + " -> " + got);
            isRight = got == due;
            if (got > Model.BEYOND) {
                GOOD.merge(name, 1, Integer::sum);
            }
            if (!isRight) {
                System.out.println("wrong: " + row + " answered " + got + ", due is " + due);
            }
        } catch (InvocationTargetException e) {
            isRight = false;
            System.out.println("wrong: " + row + " threw " + e.getCause());
        } catch (IllegalAccessException e) {
            throw new AssertionError(e);
        }
        return due;
    }

    private int arg(int low, int high) {
        int r = below(30);
        if (r == 0) {
            return ODD[below(ODD.length)];
        }
        if (r == 1) {
            return below(2) == 0 ? low - 1 : high + 1;
        }
        if (r < 5) {
            return below(2) == 0 ? low : high;
        }
        return low + below(high - low + 1);
    }

    private int saying() {
        return below(4) == 0 ? arg(0, 7) : below(Math.max(1, (int) model.peek("count", 1)));
    }

    private int ship() {
        return below(4) == 0 ? arg(0, 5) : below(Math.max(1, (int) model.peek("count", 2)));
    }

    private int days(int most) {
        return below(3) == 0 ? arg(0, most) : below(Math.min(most, 20));
    }

    private void feed(String text) {
        int i = 0;
        while (i < text.length()) {
            int n = Math.min(text.length() - i, 1 + below(4));
            int bytes = random.nextInt();
            for (int k = 0; k < n; k++) {
                bytes = bytes << 8 | text.charAt(i + k);
            }
            call("feed", bytes, n);
            i += n;
        }
    }

    private String number(int low, int high) {
        int v = low + below(high - low + 1);
        v = below(25) == 0 ? ODD[4 + below(ODD.length - 4)] : v;
        return below(12) == 0 ? "00" + v : "" + v;
    }

    private String item() {
        StringBuilder b = new StringBuilder();
        int r = below(10);
        if (r < 5) {
            b.append(WORDS[below(7)]).append(' ').append(number(0, 99));
            b.append(below(4) > 0 ? " at " + number(0, 15) : "");
            b.append(below(3) == 0 ? " said " + number(0, below(4) == 0 ? 9999 : 99) : "");
            b.append(below(4) == 0 ? " finished" : "");
        } else if (r < 8) {
            b.append("ship").append(below(3) > 0 ? " at " + number(0, 15) : "");
            b.append(below(2) == 0 ? " sees " + number(0, 99) : "");
            b.append(below(2) == 0 ? " fast " + number(1, 5) : "");
        } else {
            b.append("finish ").append(number(0, 5)).append(' ').append(number(0, 8));
        }
        return b.toString();
    }

    private String text() {
        StringBuilder b = new StringBuilder(item());
        for (int more = below(5); more > 0; more--) {
            b.append(below(2) == 0 ? ";" : " ; ").append(item());
        }
        if (below(4) == 0) {
            int at = below(b.length() + 1);
            int r = below(5);
            if (r == 0) {
                b.insert(at, (char) below(256));
            } else if (r == 1) {
                b.insert(at, " " + WORDS[below(WORDS.length)] + " ");
            } else if (r == 2) {
                b.setLength(at);
            } else if (r == 3) {
                b.insert(at, ' ');
            } else if (at < b.length()) {
                b.deleteCharAt(at);
            }
        }
        return b.toString();
    }

    /** A sheet told as the fog will be for another vagueness or kind, so that something fits. */
    private void tellSheet() {
        int saying = (int) below(8);
        int s = below(4);
        if (model.peek("count", 1) <= saying) {
            return;
        }
        int n = below(11);
        call("sheet", s, below(4) == 0 ? 8 : below(2) == 0 ? 16 : 32, n);
        int cell = (int) model.peek("of", saying, 1);
        for (int i = 0; i < n; i++) {
            int thick = (int) model.peek("fog", cell, i);
            call("write", s, i, below(3) == 0 ? -1 : below(20) == 0 ? thick + 1 : thick);
        }
        call("fits", s, saying);
        call("kinds", s, saying);
    }

    private void judgeSheet() {
        int s = below(4);
        int n = below(5);
        call("sheet", s, 8 << below(3), n);
        for (int i = 0; i < n; i++) {
            int cell = (int) model.peek("ofShip", i, 0);
            call("write", s, i, below(8) == 0 ? below(16) : Math.max(0, cell));
        }
        call("judge", s);
    }

    private void step() {
        int r = below(100);
        if (r < 4) {
            feed(text());
            call("text");
        } else if (r < 6) {
            tellSheet();
        } else if (r < 7) {
            judgeSheet();
        } else {
            String name = NAMES.get(below(NAMES.size()));
            if (r < 30 && (name.equals("go") || name.equals("decide") || name.equals("eyesFor"))) {
                return;
            }
            one(name);
        }
    }

    private void one(String name) {
        switch (name) {
            case "list" -> call(name, arg(0, 5), arg(0, 8));
            case "listed" -> call(name, arg(0, 5));
            case "saying" -> call(name, arg(0, 6), arg(0, 99), arg(0, 15));
            case "ship" -> call(name, arg(0, 15), arg(1, 5));
            case "of" -> call(name, saying(), arg(0, 8));
            case "change" -> {
                int what = arg(0, 4);
                int most = what < 0 || what > 4 ? 5 : new int[] {6, 15, 99, 1, 9999}[what];
                call(name, saying(), what, below(9) == 0 ? arg(0, most) : arg(0, Math.min(99, most)));
            }
            case "ofShip" -> call(name, ship(), arg(0, 3));
            case "steer" -> {
                int what = arg(0, 3);
                int most = what < 0 || what > 3 ? 5 : new int[] {15, 99, 5, 9999}[what];
                call(name, ship(), what, what == 0 ? arg(0, below(3) == 0 ? 15 : 5)
                        : arg(what == 2 ? 1 : 0, most));
            }
            case "thick", "lands" -> call(name, name.equals("thick") ? arg(0, 15) : ship());
            case "go" -> call(name, below(4) == 0 ? arg(1, 60) : 1 + below(4));
            case "now", "count" -> call(name, arg(0, 7));
            case "ahead" -> call(name, saying(), arg(2, 5), days(100));
            case "later" -> call(name, ship(), below(3) == 0 ? arg(0, 3) : 3 * below(2), days(100));
            case "fog" -> call(name, arg(0, 15), days(100));
            case "closes" -> call(name, arg(0, 15), below(3) == 0 ? arg(0, 999) : below(120));
            case "finishFor" -> call(name, arg(0, 5), days(40));
            case "kindFor" -> call(name, saying(), days(40));
            case "eyesFor", "speedFor" -> call(name, ship(), days(40));
            case "decide" -> call(name, arg(0, 16));
            case "fits", "kinds" -> call(name, arg(0, 3), saying());
            case "committee" -> call(name, below(4) == 0 ? arg(1, 20) : 1);
            case "odds" -> call(name, ship(), arg(0, 15), arg(0, 1));
            case "seed" -> call(name, random.nextInt());
            case "feed" -> call(name, random.nextInt(), arg(1, 4));
            case "hold" -> call(name, arg(0, 9), below(4) == 0 ? -1 : saying());
            case "as" -> call(name, arg(0, 9), arg(0, 6));
            case "sheet" -> call(name, arg(0, 3), below(9) == 0 ? arg(0, 40) : 8 * (1 << below(3)) % 64,
                    arg(0, 40));
            case "write" -> call(name, arg(0, 3), arg(0, 20), below(3) == 0 ? random.nextInt()
                    : arg(-1, 99));
            case "copy" -> call(name, arg(0, 3), arg(0, 9), arg(0, 3), arg(0, 9), arg(0, 9));
            case "load", "judge" -> call(name, arg(0, 3));
            case "status" -> call(name, arg(-1, 6));
            default -> call(name);
        }
    }

    /** What a call should have left unchanged, or changed, shows itself in these. */
    private void lookAtAll() {
        for (int s = 0; s < 8; s++) {
            for (int what = 0; what < 9; what++) {
                call("of", s, what);
            }
        }
        for (int s = 0; s < 6; s++) {
            for (int what = 0; what < 4; what++) {
                call("ofShip", s, what);
            }
            call("listed", s);
        }
        for (int what = 0; what < 8; what++) {
            call("now", what);
            call("count", what);
            call("status", what - 1);
        }
    }

    private boolean run() {
        if (below(5) > 0) {
            feed(text());
            call("text");
        }
        while (left > 180 && isRight) {
            step();
        }
        lookAtAll();
        while (left > 0 && isRight) {
            step();
        }
        return isRight;
    }

    public static void main(String[] args) {
        for (Method m : VaguePort.class.getDeclaredMethods()) {
            if (java.lang.reflect.Modifier.isPublic(m.getModifiers())) {
                FACE.put(m.getName(), m);
                NAMES.add(m.getName());
            }
        }
        NAMES.sort(Comparator.naturalOrder());
        int wrong = 0;
        for (int i = 0; i < RUNS && wrong < 5; i++) {
            RunsTest run = new RunsTest(20261118L + i);
            if (!run.run()) {
                wrong++;
                System.out.println("in run " + i + ", behind these calls:");
                run.told.forEach(row -> System.out.println("  " + row));
            }
        }
        for (String name : NAMES) {
            if (GOOD.getOrDefault(name, 0) < 100) {
                wrong++;
                System.out.println(name + " seldom answered anything but a finding");
            }
        }
        System.out.println(RUNS + " runs, " + wrong + " wrong");
        if (wrong != 0) {
            System.exit(1);
        }
    }
}
