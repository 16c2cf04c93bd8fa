import java.math.BigInteger;
import java.util.ArrayList;
import java.util.Arrays;
import java.util.List;
import java.util.regex.Matcher;
import java.util.regex.Pattern;

/**
 * The document once more, written another way (with the library, with exceptions, every trial on
 * a new copy), so that runs of calls can be held against it.
 */
final class Model {
    static final int BEYOND = -1000001;
    static final int FULL = -1000002;
    static final int KIND = -1000003;
    static final int NONE = -1000004;
    static final int STATE = -1000005;
    static final int MISSING = -1000006;
    static final int SIZE = -1000007;

    private static final class Finding extends RuntimeException {
        final int answer;

        Finding(int answer) {
            super(null, null, false, false);
            this.answer = answer;
        }
    }

    private static final class Fault extends RuntimeException {
        final int place;

        Fault(int place) {
            super(null, null, false, false);
            this.place = place;
        }
    }

    private static final class Saying implements Cloneable {
        int kind;
        int cell;
        int vague;
        int finished;
        int said;

        int thickens() {
            return thickensAs(kind);
        }

        private int thickensAs(int k) {
            if (k == 1) {
                return thickensAs(0) + said / 10;
            } else if (k == 3) {
                return 2 * thickensAs(1);
            } else if (k == 4) {
                return thickensAs(3) + 40;
            } else if (k == 2) {
                return thickensAs(0) / 2;
            } else if (k == 6) {
                return thickensAs(2) + 15;
            }
            return k == 5 ? -30 : vague;
        }

        int reaches() {
            return reachesAs(kind);
        }

        private int reachesAs(int k) {
            if (k == 1) {
                return reachesAs(0);
            } else if (k == 3) {
                return reachesAs(1) - 1;
            } else if (k == 4) {
                return reachesAs(3) + 4;
            } else if (k == 2) {
                return 2 * reachesAs(0);
            } else if (k == 6) {
                return reachesAs(2) - 1;
            }
            return k == 5 ? 3 : 2;
        }

        int blurs(int day) {
            return blursAs(kind, day);
        }

        private int blursAs(int k, int day) {
            if (k == 1) {
                return blursAs(0, day) + 1;
            } else if (k == 3) {
                return blursAs(1, day);
            } else if (k == 4) {
                return blursAs(3, day) + 3 * (day % 2);
            } else if (k == 2) {
                return (day + 1) % 7 == 0 ? 7 : -1;
            } else if (k == 6) {
                return blursAs(2, day) + 2;
            }
            return k == 5 ? 0 : 1;
        }

        int resists() {
            return resistsAs(kind);
        }

        private int resistsAs(int k) {
            if (k == 1) {
                return resistsAs(0) - 19;
            } else if (k == 3) {
                return resistsAs(1) / 2;
            } else if (k == 4) {
                return resistsAs(3) - 30;
            }
            return k == 6 ? 20 : 99;
        }

        int at(int c) {
            int off = c > cell ? c - cell : cell - c;
            int full = thickens();
            return finished == 1 || off > reaches() ? 0 : full - full / (kind == 5 ? 10 : 5) * off;
        }

        Saying copy() {
            try {
                return (Saying) clone();
            } catch (CloneNotSupportedException e) {
                throw new AssertionError(e);
            }
        }
    }

    private static final class World {
        List<Saying> sayings = new ArrayList<>();
        List<int[]> ships = new ArrayList<>();
        int[] list = {8, 8, 8, 8, 8, 8};
        int[] spots = {-1, -1, -1, -1, -1, -1, -1, -1, -1, -1};
        int day = 0;
        int z = 1;

        World copy() {
            World w = new World();
            for (Saying s : sayings) {
                w.sayings.add(s.copy());
            }
            for (int[] s : ships) {
                w.ships.add(s.clone());
            }
            w.list = list.clone();
            w.spots = spots.clone();
            w.day = day;
            w.z = z;
            return w;
        }

        int thick(int cell) {
            int all = 0;
            for (Saying s : sayings) {
                all += s.at(cell);
            }
            return all < 0 ? 0 : all;
        }

        boolean goesOn(int[] ship) {
            return ship[0] < 15 && thick(ship[0]) <= ship[1];
        }

        World days(int n) {
            for (int i = 0; i < n; i++) {
                aDay();
            }
            return this;
        }

        void aDay() {
            for (int[] s : ships) {
                if (s[0] == 15) {
                    continue;
                }
                if (goesOn(s)) {
                    s[0] += s[2];
                    s[0] = s[0] > 15 ? 15 : s[0];
                } else if (s[3] < 9999) {
                    s[3]++;
                }
            }
            int f = list[day % 6];
            if (f < sayings.size()) {
                Saying s = sayings.get(f);
                if (s.finished == 0) {
                    if (s.vague > s.resists()) {
                        s.vague = s.vague / 2;
                    } else {
                        s.finished = 1;
                    }
                }
            }
            for (Saying s : sayings) {
                if (s.finished == 0) {
                    s.vague += s.blurs(day);
                    s.vague = s.vague < 0 ? 0 : s.vague > 99 ? 99 : s.vague;
                    s.said += s.said < 9999 ? 1 : 0;
                }
            }
            day += day < 99999 ? 1 : 0;
        }

        int inPort() {
            int set = 0;
            for (int i = 0; i < ships.size(); i++) {
                set += ships.get(i)[0] == 15 ? 1 << i : 0;
            }
            return set;
        }

        int waited() {
            int all = 0;
            for (int[] s : ships) {
                all += s[3];
            }
            return all;
        }

        int draw() {
            z = (int) (z * 1103515245L + 12345L);
            return (int) ((z & 0xffffffffL) / 256);
        }

        int of(int saying, int what) {
            Saying s = sayings.get(saying);
            int[] all = {s.kind, s.cell, s.vague, s.finished, s.said, s.thickens(), s.reaches(),
                s.blurs(day), s.resists()};
            return all[what];
        }

        int set(int saying, int what, int v) {
            int was = of(saying, what);
            Saying s = sayings.get(saying);
            if (what == 0) {
                s.kind = v;
            } else if (what == 1) {
                s.cell = v;
            } else if (what == 2) {
                s.vague = v;
            } else if (what == 3) {
                s.finished = v;
            } else {
                s.said = v;
            }
            return was;
        }
    }

    private World world = new World();
    private World kept = null;
    private StringBuilder tape = new StringBuilder();
    private final int[][] sheets = new int[4][];
    private final int[] bits = new int[4];
    private final int[] found = new int[7];

    /** The answer that is due to a call of that name. */
    long call(String name, int[] a) {
        try {
            return answer(name, a);
        } catch (Finding f) {
            found[-1000001 - f.answer]++;
            return f.answer;
        }
    }

    /** The answer to a call that changes nothing, not counted if it is a finding. */
    long peek(String name, int... a) {
        try {
            return answer(name, a);
        } catch (Finding f) {
            return f.answer;
        }
    }

    private static void need(boolean holds, int finding) {
        if (!holds) {
            throw new Finding(finding);
        }
    }

    private static void range(int v, int low, int high) {
        need(low <= v && v <= high, BEYOND);
    }

    private void saying(int s) {
        range(s, 0, world.sayings.size() - 1);
    }

    private void ship(int s) {
        range(s, 0, world.ships.size() - 1);
    }

    private long answer(String name, int[] a) {
        switch (name) {
            case "list": {
                range(a[0], 0, 5);
                range(a[1], 0, 8);
                int was = world.list[a[0]];
                world.list[a[0]] = a[1];
                return was;
            }
            case "listed":
                range(a[0], 0, 5);
                return world.list[a[0]];
            case "saying": {
                range(a[0], 0, 6);
                range(a[1], 0, 99);
                range(a[2], 0, 15);
                need(world.sayings.size() < 8, FULL);
                return add(world, a[0], a[1], a[2], 0, 0);
            }
            case "ship":
                range(a[0], 0, 15);
                range(a[1], 1, 5);
                need(world.ships.size() < 6, FULL);
                world.ships.add(new int[] {a[0], 30, a[1], 0});
                return world.ships.size() - 1;
            case "of":
                saying(a[0]);
                range(a[1], 0, 8);
                return world.of(a[0], a[1]);
            case "change":
                saying(a[0]);
                range(a[1], 0, 4);
                range(a[2], 0, new int[] {6, 15, 99, 1, 9999}[a[1]]);
                return world.set(a[0], a[1], a[2]);
            case "ofShip":
                ship(a[0]);
                range(a[1], 0, 3);
                return world.ships.get(a[0])[a[1]];
            case "steer": {
                ship(a[0]);
                range(a[1], 0, 3);
                range(a[2], a[1] == 2 ? 1 : 0, new int[] {15, 99, 5, 9999}[a[1]]);
                int was = world.ships.get(a[0])[a[1]];
                world.ships.get(a[0])[a[1]] = a[2];
                return was;
            }
            case "thick":
                range(a[0], 0, 15);
                return world.thick(a[0]);
            case "go":
                range(a[0], 1, 60);
                need(world.day + a[0] <= 99999, STATE);
                return world.days(a[0]).inPort();
            case "now":
                range(a[0], 0, 7);
                return now(a[0]);
            default:
                return answerAhead(name, a);
        }
    }

    private static int add(World w, int kind, int vague, int cell, int said, int finished) {
        Saying s = new Saying();
        s.kind = kind;
        s.vague = vague;
        s.cell = cell;
        s.said = said;
        s.finished = finished;
        w.sayings.add(s);
        return w.sayings.size() - 1;
    }

    private int finishedSet() {
        int set = 0;
        for (int i = 0; i < world.sayings.size(); i++) {
            set += world.sayings.get(i).finished << i;
        }
        return set;
    }

    private int now(int what) {
        int answer = 0;
        switch (what) {
            case 0:
                return world.day;
            case 1:
                return world.inPort();
            case 2:
                return finishedSet();
            case 3:
                for (Saying s : world.sayings) {
                    answer += s.finished == 1 ? 0 : s.vague;
                }
                return answer;
            case 4:
                return world.waited();
            case 5:
                for (int c = 15; c >= 0; c--) {
                    answer = world.thick(c) >= world.thick(answer) ? c : answer;
                }
                return answer;
            case 6:
                for (int c = 0; c < 16; c++) {
                    answer |= world.thick(c) > 0 ? 0 : 1 << c;
                }
                return answer;
            default:
                for (int i = 0; i < world.ships.size(); i++) {
                    answer |= world.goesOn(world.ships.get(i)) ? 1 << i : 0;
                }
                return answer;
        }
    }

    private long answerAhead(String name, int[] a) {
        World w = world.copy();
        switch (name) {
            case "ahead":
                saying(a[0]);
                range(a[1], 2, 5);
                range(a[2], 0, 100);
                return w.days(a[2]).of(a[0], a[1]);
            case "later":
                ship(a[0]);
                need(a[1] == 0 || a[1] == 3, BEYOND);
                range(a[2], 0, 100);
                return w.days(a[2]).ships.get(a[0])[a[1]];
            case "fog":
                range(a[0], 0, 15);
                range(a[1], 0, 100);
                return w.days(a[1]).thick(a[0]);
            case "lands":
                ship(a[0]);
                for (int n = 0; n <= 200; n++, w.aDay()) {
                    if (w.ships.get(a[0])[0] == 15) {
                        return n;
                    }
                }
                throw new Finding(NONE);
            case "closes":
                range(a[0], 0, 15);
                range(a[1], 0, 999);
                for (int n = 0; n <= 200; n++, w.aDay()) {
                    if (w.thick(a[0]) >= a[1]) {
                        return n;
                    }
                }
                throw new Finding(NONE);
            case "settled":
                for (int n = 0; n <= 200; n++, w.aDay()) {
                    if (w.sayings.stream().allMatch(s -> s.finished == 1)) {
                        return n;
                    }
                }
                throw new Finding(NONE);
            default:
                return answerFinish(name, a);
        }
    }

    private long answerFinish(String name, int[] a) {
        switch (name) {
            case "finishFor": {
                range(a[0], 0, 5);
                range(a[1], 0, 40);
                int[] waited = new int[9];
                for (int s = 0; s < 9; s++) {
                    World w = world.copy();
                    w.list[a[0]] = s;
                    waited[s] = w.days(a[1]).waited();
                }
                return leastAt(waited);
            }
            case "kindFor": {
                saying(a[0]);
                range(a[1], 0, 40);
                int[] waited = new int[7];
                for (int k = 0; k < 7; k++) {
                    World w = world.copy();
                    w.sayings.get(a[0]).kind = k;
                    waited[k] = w.days(a[1]).waited();
                }
                return leastAt(waited);
            }
            case "eyesFor":
                return leastToLand(a[0], a[1], 1, 0, 99);
            case "speedFor":
                return leastToLand(a[0], a[1], 2, 1, 5);
            case "decide":
                range(a[0], 0, 16);
                return decide(a[0]);
            case "fits":
            case "kinds":
                return told(name, a[0], a[1]);
            default:
                return answerRest(name, a);
        }
    }

    private static int leastAt(int[] row) {
        int least = Arrays.stream(row).min().getAsInt();
        for (int i = 0; ; i++) {
            if (row[i] == least) {
                return i;
            }
        }
    }

    private int leastToLand(int ship, int n, int what, int low, int high) {
        ship(ship);
        range(n, 0, 40);
        for (int v = low; v <= high; v++) {
            World w = world.copy();
            w.ships.get(ship)[what] = v;
            if (w.days(n).ships.get(ship)[0] == 15) {
                return v;
            }
        }
        throw new Finding(NONE);
    }

    private int decide(int n) {
        for (int few = 0; few <= 8; few++) {
            for (int set = 0; set < 1 << world.sayings.size(); set++) {
                if (Integer.bitCount(set) != few) {
                    continue;
                }
                World w = world.copy();
                for (int s = 0; s < 8; s++) {
                    if ((set & 1 << s) != 0) {
                        w.sayings.get(s).finished = 1;
                    }
                }
                if (w.days(n).inPort() == (1 << w.ships.size()) - 1) {
                    return set;
                }
            }
        }
        throw new Finding(NONE);
    }

    private long told(String name, int s, int saying) {
        sheet(s);
        saying(saying);
        int fitting = 0;
        int set = 0;
        int what = name.equals("fits") ? 2 : 0;
        for (int v = 0; v < (what == 2 ? 100 : 7); v++) {
            World w = world.copy();
            w.set(saying, what, v);
            boolean fits = true;
            for (int i = 0; i < 8 && i < sheets[s].length; i++) {
                int t = sheets[s][i];
                fits &= t == -1 || thickThen(w, i, saying) == t;
            }
            fitting += fits ? 1 : 0;
            set |= fits ? 1 << v : 0;
        }
        return what == 2 ? fitting : set;
    }

    private static int thickThen(World w, int n, int saying) {
        World then = w.copy().days(n);
        return then.thick(then.sayings.get(saying).cell);
    }

    private void sheet(int s) {
        range(s, 0, 3);
        need(sheets[s] != null, MISSING);
    }

    private long answerRest(String name, int[] a) {
        switch (name) {
            case "committee":
                range(a[0], 1, 20);
                need(world.day + a[0] <= 99999, STATE);
                for (int i = 0; i < a[0]; i++) {
                    world.list[world.day % 6] = world.draw() % 9;
                    int s = world.draw() % 8;
                    if (s < world.sayings.size()) {
                        world.sayings.get(s).vague = Math.min(99, world.sayings.get(s).vague + 5);
                    }
                    world.aDay();
                }
                return world.inPort();
            case "odds":
                ship(a[0]);
                range(a[1], 0, 15);
                range(a[2], 0, 1);
                return odds(a[0], a[1], a[2]);
            case "seed": {
                int was = world.z;
                world.z = a[0];
                return was;
            }
            case "feed":
                range(a[1], 1, 4);
                need(tape.length() + a[1] <= 120, FULL);
                for (int i = 4 - a[1]; i < 4; i++) {
                    tape.append((char) (a[0] >>> 24 - 8 * i & 255));
                }
                return tape.length();
            case "wipe": {
                int had = tape.length();
                tape = new StringBuilder();
                return had;
            }
            case "text": {
                String t = tape.toString();
                tape = new StringBuilder();
                try {
                    World w = world.copy();
                    int items = read(t, w);
                    world = w;
                    return items;
                } catch (Fault f) {
                    return -1 - f.place;
                }
            }
            default:
                return answerSheets(name, a);
        }
    }

    private long odds(int ship, int n, int what) {
        int good = 0;
        for (int c = 0; c < 16; c++) {
            int[] s = world.ships.get(ship).clone();
            s[0] = c;
            good += world.goesOn(s) ? 1 : 0;
        }
        BigInteger above = BigInteger.valueOf(good).pow(n);
        BigInteger below = BigInteger.valueOf(16).pow(n);
        BigInteger g = above.gcd(below);
        return (what == 0 ? above : below).divide(g).longValueExact();
    }

    private static final Pattern TOKEN = Pattern.compile("[a-z]+|[0-9]+|;|(?s:.)");
    private static final List<String> KIND_WORDS =
            List.of("saying", "promise", "sermon", "will", "engagement", "plain", "law");

    private List<String> tokens;
    private List<Integer> starts;
    private int next;

    private int read(String text, World w) {
        tokens = new ArrayList<>();
        starts = new ArrayList<>();
        Matcher m = TOKEN.matcher(text);
        while (m.find()) {
            if (!m.group().equals(" ")) {
                tokens.add(m.group());
                starts.add(m.start());
            }
        }
        tokens.add("");
        starts.add(text.length());
        next = 0;
        int items = 0;
        do {
            item(w);
            items++;
        } while (perhaps(";"));
        if (!peek().isEmpty()) {
            throw new Fault(starts.get(next));
        }
        return items;
    }

    private String peek() {
        return tokens.get(next);
    }

    private boolean perhaps(String token) {
        if (peek().equals(token)) {
            next++;
            return true;
        }
        return false;
    }

    private void must(boolean holds) {
        if (!holds) {
            throw new Fault(starts.get(next));
        }
    }

    private int number(int low, int high) {
        must(peek().matches("[0-9]+"));
        BigInteger v = new BigInteger(peek());
        must(v.compareTo(BigInteger.valueOf(low)) >= 0 && v.compareTo(BigInteger.valueOf(high)) <= 0);
        next++;
        return v.intValue();
    }

    private void item(World w) {
        int kind = KIND_WORDS.indexOf(peek());
        if (kind >= 0) {
            must(w.sayings.size() < 8);
            next++;
            int vague = number(0, 99);
            int cell = perhaps("at") ? number(0, 15) : 0;
            int said = perhaps("said") ? number(0, 9999) : 0;
            add(w, kind, vague, cell, said, perhaps("finished") ? 1 : 0);
        } else if (peek().equals("ship")) {
            must(w.ships.size() < 6);
            next++;
            int cell = perhaps("at") ? number(0, 15) : 0;
            int sees = perhaps("sees") ? number(0, 99) : 30;
            int fast = perhaps("fast") ? number(1, 5) : 2;
            w.ships.add(new int[] {cell, sees, fast, 0});
        } else {
            must(perhaps("finish"));
            int place = number(0, 5);
            w.list[place] = number(0, 8);
        }
    }

    private static final int[][] UNDER = {{0}, {0, 1}, {0, 2}, {0, 1, 3}, {0, 1, 3, 4}, {0, 5},
        {0, 2, 6}};

    private long answerSheets(String name, int[] a) {
        switch (name) {
            case "hold":
                range(a[0], 0, 9);
                range(a[1], -1, world.sayings.size() - 1);
                world.spots[a[0]] = a[1];
                return 1;
            case "as": {
                range(a[0], 0, 9);
                range(a[1], 0, 6);
                int s = world.spots[a[0]];
                need(s != -1, MISSING);
                need(Arrays.stream(UNDER[world.sayings.get(s).kind]).anyMatch(k -> k == a[1]), KIND);
                return s;
            }
            case "sheet":
                range(a[0], 0, 3);
                need(List.of(0, 8, 16, 32).contains(a[1]), BEYOND);
                need(a[2] >= 0, SIZE);
                need(a[2] <= 40, BEYOND);
                bits[a[0]] = a[1];
                sheets[a[0]] = a[1] == 0 ? null : new int[a[2]];
                return a[1] == 0 ? 0 : a[2];
            case "write":
                sheet(a[0]);
                range(a[1], 0, sheets[a[0]].length - 1);
                sheets[a[0]][a[1]] = a[2] << 32 - bits[a[0]] >> 32 - bits[a[0]];
                return 1;
            case "copy": {
                range(a[0], 0, 3);
                range(a[2], 0, 3);
                need(sheets[a[0]] != null && sheets[a[2]] != null, MISSING);
                need(bits[a[0]] == bits[a[2]], KIND);
                need(a[1] >= 0 && a[3] >= 0 && a[4] >= 0, BEYOND);
                need((long) a[1] + a[4] <= sheets[a[0]].length, BEYOND);
                need((long) a[3] + a[4] <= sheets[a[2]].length, BEYOND);
                int[] were = sheets[a[0]].clone();
                for (int i = 0; i < a[4]; i++) {
                    sheets[a[2]][a[3] + i] = were[a[1] + i];
                }
                return a[4];
            }
            case "load": {
                sheet(a[0]);
                int came = 0;
                for (int v : sheets[a[0]]) {
                    if (v < 0 || v > 99 || came >= world.sayings.size()) {
                        break;
                    }
                    world.sayings.get(came++).vague = v;
                }
                return came;
            }
            case "judge":
                sheet(a[0]);
                for (int i = 0; i < sheets[a[0]].length; i++) {
                    if (i >= world.ships.size() || world.ships.get(i)[0] != sheets[a[0]][i]) {
                        return 1 + i;
                    }
                }
                return 0;
            default:
                return answerImages(name, a);
        }
    }

    private long answerImages(String name, int[] a) {
        switch (name) {
            case "image":
                kept = world.copy();
                return 1;
            case "undo":
                need(kept != null, NONE);
                world = kept.copy();
                return world.day;
            case "tear": {
                int was = kept == null ? 0 : 1;
                kept = null;
                return was;
            }
            case "count": {
                range(a[0], 0, 7);
                int holding = (int) Arrays.stream(world.spots).filter(s -> s >= 0).count();
                int[] all = {world.day, world.sayings.size(), world.ships.size(), world.waited(),
                    Integer.bitCount(finishedSet()), tape.length(), world.z, holding};
                return all[a[0]];
            }
            case "status":
                range(a[0], -1, 6);
                return a[0] < 0 ? Arrays.stream(found).sum() : found[a[0]];
            default:
                throw new IllegalArgumentException(name);
        }
    }
}
