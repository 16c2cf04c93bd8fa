/** Each promise of the document, by its number: ordinary inputs, its edges, wrong inputs. */
public final class PromiseTest {
    private static final int BEYOND = -1000001;
    private static final int FULL = -1000002;
    private static final int KIND = -1000003;
    private static final int NONE = -1000004;
    private static final int STATE = -1000005;
    private static final int MISSING = -1000006;
    private static final int SIZE = -1000007;
    private static final int MIN = Integer.MIN_VALUE;
    private static final int MAX = Integer.MAX_VALUE;

    private static int wrong = 0;
    private static int asked = 0;

    private static void due(int promise, String call, long got, long want) {
        asked++;
        if (got != want) {
            wrong++;
            System.out.println("promise " + promise + ": " + call + " answered " + got
                    + ", due is " + want);
        }
    }

    private static void tape(VaguePort x, String text) {
        for (int i = 0; i < text.length(); i++) {
            x.feed(text.charAt(i), 1);
        }
    }

    private static int text(VaguePort x, String text) {
        x.wipe();
        tape(x, text);
        return x.text();
    }

    private static VaguePort from(String text) {
        VaguePort x = new VaguePort();
        int items = text(x, text);
        if (items < 0) {
            wrong++;
            System.out.println("a test's own text has a fault: " + text + " " + items);
        }
        return x;
    }

    private static void row(VaguePort x, int s, int bits, int... numbers) {
        x.sheet(s, bits, numbers.length);
        for (int i = 0; i < numbers.length; i++) {
            x.write(s, i, numbers[i]);
        }
    }

    private static void aNewObject() {
        VaguePort x = new VaguePort();
        for (int i = 0; i < 6; i++) {
            due(1, "listed " + i, x.listed(i), 8);
        }
        for (int what = 0; what < 8; what++) {
            due(1, "count " + what, x.count(what), what == 6 ? 1 : 0);
        }
        for (int cell = 0; cell < 16; cell++) {
            due(1, "thick " + cell, x.thick(cell), 0);
        }
        for (int which = -1; which < 7; which++) {
            due(1, "status " + which, x.status(which), 0);
        }
        due(1, "tear", x.tear(), 0);
        due(1, "undo", x.undo(), NONE);
        due(1, "as", x.as(9, 0), MISSING);
        due(1, "load", x.load(3), MISSING);
        VaguePort y = new VaguePort();
        x.saying(0, 50, 0);
        due(1, "another object is another", y.count(1), 0);
    }

    private static void theList() {
        VaguePort x = new VaguePort();
        due(2, "first", x.list(0, 0), 8);
        due(2, "what it was", x.list(0, 7), 0);
        due(2, "none", x.list(0, 8), 7);
        due(2, "what it was", x.list(0, 3), 8);
        due(2, "last place", x.list(5, 7), 8);
        due(3, "place 0", x.listed(0), 3);
        due(3, "place 1", x.listed(1), 8);
        due(3, "place 5", x.listed(5), 7);
        for (int i : new int[] {-1, 6, MIN, MAX}) {
            due(2, "place " + i, x.list(i, 0), BEYOND);
            due(3, "place " + i, x.listed(i), BEYOND);
        }
        for (int saying : new int[] {-1, 9, MIN, MAX}) {
            due(2, "saying " + saying, x.list(0, saying), BEYOND);
        }
        due(2, "unchanged", x.listed(0), 3);
    }

    private static void sayings() {
        VaguePort x = new VaguePort();
        int[][] bad = {{-1, 0, 0}, {7, 0, 0}, {0, -1, 0}, {0, 100, 0}, {0, 0, -1}, {0, 0, 16},
            {MAX, 0, 0}, {0, MIN, 0}, {0, 0, MAX}};
        for (int[] b : bad) {
            due(4, "bad", x.saying(b[0], b[1], b[2]), BEYOND);
        }
        for (int i = 0; i < 8; i++) {
            due(4, "number", x.saying(i % 7, i == 0 ? 99 : i, i == 7 ? 15 : i), i);
        }
        due(4, "ninth", x.saying(0, 0, 0), FULL);
        due(4, "ninth, beyond first", x.saying(0, 0, 16), BEYOND);
        due(4, "vague 99", x.of(0, 2), 99);
        due(4, "cell 15", x.of(7, 1), 15);
        due(4, "kind", x.of(6, 0), 6);
        due(4, "not finished", x.of(6, 3), 0);
        due(4, "said", x.of(6, 4), 0);
        due(4, "eight", x.count(1), 8);
    }

    private static void ships() {
        VaguePort x = new VaguePort();
        int[][] bad = {{-1, 1}, {16, 1}, {0, 0}, {0, 6}, {0, -1}, {MAX, 1}, {0, MIN}};
        for (int[] b : bad) {
            due(5, "bad", x.ship(b[0], b[1]), BEYOND);
        }
        due(5, "first", x.ship(15, 5), 0);
        due(5, "second", x.ship(0, 1), 1);
        for (int i = 2; i < 6; i++) {
            due(5, "number", x.ship(i, 3), i);
        }
        due(5, "seventh", x.ship(0, 1), FULL);
        due(5, "seventh, beyond first", x.ship(0, 6), BEYOND);
        int[] first = {15, 30, 5, 0};
        for (int what = 0; what < 4; what++) {
            due(8, "of ship 0 " + what, x.ofShip(0, what), first[what]);
        }
        due(8, "cell", x.ofShip(4, 0), 4);
        due(8, "fast", x.ofShip(1, 2), 1);
        int[][] beyond = {{-1, 0}, {6, 0}, {0, -1}, {0, 4}, {MIN, 0}, {0, MAX}};
        for (int[] b : beyond) {
            due(8, "beyond", x.ofShip(b[0], b[1]), BEYOND);
            due(9, "beyond", x.steer(b[0], b[1], 1), BEYOND);
        }
        int[] low = {0, 0, 1, 0};
        int[] high = {15, 99, 5, 9999};
        for (int what = 0; what < 4; what++) {
            due(9, "was", x.steer(0, what, high[what]), first[what]);
            due(9, "was", x.steer(0, what, low[what]), high[what]);
            due(9, "too low", x.steer(0, what, low[what] - 1), BEYOND);
            due(9, "too high", x.steer(0, what, high[what] + 1), BEYOND);
            due(9, "is", x.ofShip(0, what), low[what]);
        }
    }

    private static final int[] KINDS = {0, 1, 2, 3, 4, 5, 6};
    private static final int[] THICKENS_57_SAID_129 = {57, 69, 28, 138, 178, -30, 43};
    private static final int[] REACHES = {2, 2, 4, 1, 5, 3, 3};
    private static final int[] BLURS_EVEN = {1, 2, -1, 2, 2, 0, 1};
    private static final int[] BLURS_ODD = {1, 2, -1, 2, 5, 0, 1};
    private static final int[] BLURS_SIX = {1, 2, 7, 2, 2, 0, 9};
    private static final int[] RESISTS = {99, 80, 99, 40, 10, 99, 20};

    private static void whatSayingsDo() {
        VaguePort x = new VaguePort();
        for (int kind : KINDS) {
            x.saying(kind, 57, 3);
            x.change(kind, 4, 129);
        }
        for (int finished = 0; finished < 2; finished++) {
            for (int kind : KINDS) {
                x.change(kind, 3, finished);
                due(6, "kind", x.of(kind, 0), kind);
                due(6, "cell", x.of(kind, 1), 3);
                due(6, "vague", x.of(kind, 2), 57);
                due(6, "finished", x.of(kind, 3), finished);
                due(6, "said", x.of(kind, 4), 129);
                due(6, "thickens", x.of(kind, 5), THICKENS_57_SAID_129[kind]);
                due(6, "reaches", x.of(kind, 6), REACHES[kind]);
                due(6, "blurs", x.of(kind, 7), BLURS_EVEN[kind]);
                due(6, "resists", x.of(kind, 8), RESISTS[kind]);
            }
        }
        for (int day = 1; day <= 14; day++) {
            x.go(1);
            for (int kind : KINDS) {
                int blurs = day % 2 == 1 ? BLURS_ODD[kind] : BLURS_EVEN[kind];
                if (day == 6 || day == 13) {
                    blurs = kind == 4 ? blurs : BLURS_SIX[kind];
                }
                due(6, "blurs of " + kind + " on day " + day, x.of(kind, 7), blurs);
            }
        }
        int[][] beyond = {{-1, 0}, {7, 0}, {0, -1}, {0, 9}, {MIN, 0}, {0, MAX}};
        for (int[] b : beyond) {
            due(6, "beyond", x.of(b[0], b[1]), BEYOND);
        }
    }

    private static void changes() {
        VaguePort x = new VaguePort();
        x.saying(2, 33, 4);
        int[] first = {2, 4, 33, 0, 0};
        int[] high = {6, 15, 99, 1, 9999};
        for (int what = 0; what < 5; what++) {
            due(7, "was", x.change(0, what, high[what]), first[what]);
            due(7, "too high", x.change(0, what, high[what] + 1), BEYOND);
            due(7, "too low", x.change(0, what, -1), BEYOND);
            due(7, "is", x.of(0, what), high[what]);
            due(7, "was", x.change(0, what, 0), high[what]);
            due(7, "is", x.of(0, what), 0);
        }
        int[][] beyond = {{-1, 0}, {1, 0}, {0, -1}, {0, 5}, {MAX, 0}, {0, MIN}};
        for (int[] b : beyond) {
            due(7, "beyond", x.change(b[0], b[1], 0), BEYOND);
        }
        due(7, "all counted", x.status(0), 16);
    }

    private static void thickness() {
        VaguePort x = from("saying 50 at 5");
        int[] saying = {0, 0, 0, 30, 40, 50, 40, 30, 0};
        for (int cell = 0; cell < saying.length; cell++) {
            due(10, "a saying at " + cell, x.thick(cell), saying[cell]);
        }
        x = from("engagement 3 at 6 said 19");
        int thickens = 2 * (3 + 1) + 40;
        for (int off = 0; off <= 5; off++) {
            due(10, "engagement off " + off, x.thick(6 - off), thickens - off * 9);
            due(10, "engagement off " + off, x.thick(6 + off), thickens - off * 9);
        }
        due(10, "engagement too far", x.thick(0), 0);
        due(10, "engagement too far", x.thick(12), 0);
        x = from("saying 99 at 5; saying 99 at 6; plain 0 at 4");
        int[] together = {0, 0, 0, 61 - 27, 80 + 61 - 30, 99 + 80 - 27, 80 + 99 - 24,
            61 + 80 - 21, 61, 0};
        for (int cell = 0; cell < together.length; cell++) {
            due(10, "together at " + cell, x.thick(cell), together[cell]);
        }
        x = from("plain 99 at 4; law 10 at 4; law 99 at 0 finished");
        due(10, "0 at least", x.thick(4), 0);
        due(10, "0 at least", x.thick(2), 0);
        due(10, "0 at least", x.thick(7), 0);
        due(10, "finished", x.thick(0), 0);
        for (int cell : new int[] {-1, 16, MIN, MAX}) {
            due(10, "beyond", x.thick(cell), BEYOND);
        }
    }

    private static void days() {
        VaguePort x = from("saying 31 at 0; ship; ship at 0 sees 31 fast 5; ship at 13 fast 5;"
                + "ship at 15");
        due(12, "day", x.now(0), 0);
        due(12, "in port", x.now(1), 8);
        due(12, "would go on, but for the one in port", x.now(7), 6);
        due(11, "one day", x.go(1), 12);
        due(12, "day", x.now(0), 1);
        due(11, "waits", x.ofShip(0, 3), 1);
        due(11, "stays", x.ofShip(0, 0), 0);
        due(11, "as thick as it sees", x.ofShip(1, 0), 5);
        due(11, "no farther than 15", x.ofShip(2, 0), 15);
        due(11, "in port none waits", x.ofShip(3, 3), 0);
        due(11, "blurs", x.of(0, 2), 32);
        due(11, "said", x.of(0, 4), 1);
        due(11, "two days", x.go(2), 14);
        due(12, "waited", x.now(4), 3);
        x.steer(0, 3, 9998);
        x.change(0, 4, 9998);
        x.go(3);
        due(11, "waited at most", x.ofShip(0, 3), 9999);
        due(11, "said at most", x.of(0, 4), 9999);
        due(11, "day", x.count(0), 6);
        x.go(60);
        due(11, "vague", x.of(0, 2), 97);
        x.go(3);
        due(11, "vague at most", x.of(0, 2), 99);
        for (int n : new int[] {0, 61, -1, MIN, MAX}) {
            due(11, "beyond", x.go(n), BEYOND);
        }
        due(11, "day unchanged", x.now(0), 69);
    }

    private static void daysFinish() {
        VaguePort x = from("promise 81 at 3; law 20 at 4; engagement 11 at 5; sermon 99 at 6");
        text(x, "finish 0 0; finish 1 1; finish 2 2; finish 3 3; finish 4 5");
        x.go(1);
        due(11, "more vague than it resists", x.of(0, 3), 0);
        due(11, "half as vague, and blurs", x.of(0, 2), 42);
        due(11, "law blurs", x.of(1, 2), 21);
        x.go(1);
        due(11, "law too vague", x.of(1, 3), 0);
        due(11, "law half as vague", x.of(1, 2), 11);
        x.go(1);
        due(11, "engagement half as vague", x.of(2, 2), (11 + 2 + 5) / 2 + 2);
        x.go(1);
        due(11, "sermon finished", x.of(3, 3), 1);
        due(11, "a finished one doesn't blur", x.of(3, 2), 96);
        due(11, "a finished one isn't said", x.of(3, 4), 3);
        due(12, "finished", x.now(2), 8);
        x.go(2);
        due(11, "no such saying, none", x.now(2), 8);
        x.go(1);
        due(11, "finished on day 6", x.of(0, 3), 1);
        due(11, "kept as vague as it was", x.of(0, 2), 52);
        due(12, "finished", x.now(2), 9);
        due(11, "law blurs by 9 on day 6", x.of(1, 2), 11 + 4 + 9);
        x.go(1);
        due(11, "law too vague again", x.of(1, 2), 12 + 1);
        x.go(6);
        due(11, "law finished on day 13", x.now(2), 11);
        VaguePort y = from("saying 99; finish 0 0");
        y.go(1);
        due(11, "a saying is finished at 99", y.of(0, 3), 1);
        y = from("will 40; will 41; promise 80; promise 81; law 20; law 21; engagement 10;"
                + "engagement 11");
        for (int i = 0; i < 8; i++) {
            VaguePort z = new VaguePort();
            z.saying(y.of(i, 0), y.of(i, 2), 0);
            z.list(0, 0);
            z.go(1);
            due(11, "resists " + i, z.of(0, 3), 1 - i % 2);
        }
    }

    private static void daysInOrder() {
        VaguePort x = from("saying 31; ship; finish 0 0");
        due(11, "ships look before the list finishes", x.go(1), 0);
        due(11, "waited", x.ofShip(0, 3), 1);
        x = from("saying 30; ship");
        x.go(1);
        due(11, "ships look before it blurs", x.ofShip(0, 0), 2);
        x = from("sermon 0 at 3; sermon 1 at 3");
        x.go(1);
        due(11, "vague 0 at least", x.of(0, 2), 0);
        due(11, "vague 0", x.of(1, 2), 0);
        x.go(6);
        due(11, "sunday", x.of(0, 2), 7);
    }

    /** No promise holds behind 512 calls, but only there can DAY come to its end. */
    private static void endOfDays() {
        VaguePort x = from("ship at 14; ship at 15");
        for (int i = 0; i < 1666; i++) {
            x.go(60);
        }
        due(11, "day", x.now(0), 99960);
        due(11, "would be above", x.go(40), STATE);
        due(26, "would be above, beyond first", x.committee(21), BEYOND);
        due(11, "just not", x.go(20), 3);
        due(26, "would be above", x.committee(20), STATE);
        x.image();
        due(11, "just not", x.go(19), 3);
        x.undo();
        due(26, "just not", x.committee(19), 3);
        due(11, "last day", x.now(0), 99999);
        due(11, "no more", x.go(1), STATE);
        due(26, "no more", x.committee(1), STATE);
        due(43, "counted", x.status(4), 4);
        // An engagement blurs by 5 on each odd day, and DAY stays odd.
        x.saying(4, 0, 0);
        due(13, "no later day", x.ahead(0, 2, 4), 20);
        due(11, "unchanged", x.now(0), 99999);
    }

    private static void nowTells() {
        VaguePort x = from("saying 20 at 2; saying 20 at 9; sermon 40 at 15 finished; ship;"
                + "ship at 9 sees 19; ship at 9 sees 20; ship at 15 sees 99");
        due(12, "vague", x.now(3), 40);
        due(12, "thickest, the least", x.now(5), 2);
        x.change(1, 2, 21);
        due(12, "thickest", x.now(5), 9);
        due(12, "clear cells", x.now(6), 0xffff & ~0x1f & ~(0x1f << 7));
        due(12, "go on", x.now(7), 1);
        x.change(1, 2, 20);
        due(12, "go on", x.now(7), 5);
        due(12, "finished", x.now(2), 4);
        x.steer(0, 3, 7);
        x.steer(3, 3, 5);
        due(12, "waited", x.now(4), 12);
        for (int what : new int[] {-1, 8, MIN, MAX}) {
            due(12, "beyond", x.now(what), BEYOND);
        }
    }

    private static void whatWillBe() {
        VaguePort x = from("promise 20 at 4 said 95; law 9 at 15; finish 4 0; ship at 2; ship at 13");
        due(13, "vague now", x.ahead(0, 2, 0), 20);
        due(13, "vague", x.ahead(0, 2, 4), 28);
        due(13, "finished then", x.ahead(0, 3, 5), 1);
        due(13, "not yet", x.ahead(0, 3, 4), 0);
        due(13, "said", x.ahead(0, 4, 100), 99);
        due(13, "thickens", x.ahead(0, 5, 2), 24 + 9);
        due(13, "thickens finished", x.ahead(0, 5, 9), 28 + 9);
        due(13, "law", x.ahead(1, 5, 100), Math.min(99, 9 + 86 + 14 * 9) / 2 + 15);
        int[][] bad = {{-1, 2, 0}, {2, 2, 0}, {0, 1, 0}, {0, 6, 0}, {0, 2, -1}, {0, 2, 101}};
        for (int[] b : bad) {
            due(13, "beyond", x.ahead(b[0], b[1], b[2]), BEYOND);
        }
        due(14, "now", x.later(0, 0, 0), 2);
        due(14, "moves", x.later(0, 0, 1), 4);
        due(14, "waits", x.later(0, 0, 2), 4);
        due(14, "waited", x.later(0, 3, 5), 4);
        due(14, "waited no more", x.later(0, 3, 100), 4);
        due(14, "free", x.later(0, 0, 6), 6);
        due(14, "port", x.later(1, 0, 1), 15);
        due(14, "port at last", x.later(0, 0, 100), 15);
        int[][] bad2 = {{-1, 0, 0}, {2, 0, 0}, {0, 1, 0}, {0, 2, 0}, {0, 4, 0}, {0, -1, 0},
            {0, 0, -1}, {0, 0, 101}};
        for (int[] b : bad2) {
            due(14, "beyond", x.later(b[0], b[1], b[2]), BEYOND);
        }
        due(15, "now", x.fog(4, 0), 29);
        due(15, "on day 1", x.fog(4, 1), 31);
        due(15, "on day 4", x.fog(5, 4), 37 - 7);
        due(15, "on day 5", x.fog(4, 5), 0);
        due(15, "on day 100", x.fog(15, 100), 49 + 15);
        int[][] bad3 = {{-1, 0}, {16, 0}, {0, -1}, {0, 101}, {MAX, 0}, {0, MIN}};
        for (int[] b : bad3) {
            due(15, "beyond", x.fog(b[0], b[1]), BEYOND);
        }
        due(15, "nothing changed", x.now(0), 0);
        due(15, "nothing changed", x.of(0, 2), 20);
    }

    private static void whenItWillBe() {
        VaguePort x = from("saying 31 at 4; finish 3 0; ship at 15; ship at 4; ship at 4 fast 5;"
                + "ship at 14 fast 1");
        due(16, "there", x.lands(0), 0);
        due(16, "behind four waits", x.lands(1), 4 + 6);
        due(16, "fast", x.lands(2), 4 + 3);
        due(16, "next", x.lands(3), 1);
        due(16, "beyond", x.lands(4), BEYOND);
        due(16, "beyond", x.lands(-1), BEYOND);
        due(16, "never", from("saying 31; ship").lands(0), NONE);
        x = from("law 99; finish 0 0; finish 1 0; finish 2 0; finish 3 0; ship sees 5 fast 1");
        due(16, "behind a halving law", x.lands(0), 4 + 15);
        due(16, "slow", from("sermon 0 at 1; ship at 1 sees 0 fast 1").lands(0), 14);
        x = from("saying 40 at 7; plain 0 at 1");
        due(17, "now", x.closes(7, 40), 0);
        due(17, "in a day", x.closes(7, 41), 1);
        due(17, "at last", x.closes(7, 99), 59);
        due(17, "never", x.closes(7, 100), NONE);
        due(17, "a cell off", x.closes(8, 80), 59);
        due(17, "0", x.closes(1, 0), 0);
        due(17, "never", x.closes(1, 1), NONE);
        int[][] bad = {{-1, 0}, {16, 0}, {0, -1}, {0, 1000}, {MIN, 0}, {0, MAX}};
        for (int[] b : bad) {
            due(17, "beyond", x.closes(b[0], b[1]), BEYOND);
        }
        due(17, "999 is told", x.closes(0, 999), NONE);
        x = from("saying 9; law 9; plain 9 finished; finish 0 1; finish 5 0");
        due(18, "settled", x.settled(), 6);
        x.change(1, 3, 1);
        x.change(0, 3, 1);
        due(18, "all are", x.settled(), 0);
        x.change(2, 3, 0);
        due(18, "never", x.settled(), NONE);
        due(18, "no sayings", new VaguePort().settled(), 0);
    }

    private static void edgeOfLooking() {
        // A promise of 99 thickens by one each ten days: 99 and a tenth of what it is said.
        due(17, "behind 199", from("promise 99 said 1").closes(0, 119), 199);
        due(17, "behind 200", from("promise 99").closes(0, 119), 200);
        due(17, "behind 201", from("promise 99 said 9").closes(0, 120), NONE);
        due(17, "behind 200", from("promise 99 said 10").closes(0, 120), 200);
    }

    private static void landsAtTheEdge() {
        // The fog of two engagements, one halved again and again, and of a sermon comes in waves.
        VaguePort x = from("engagement 99 at 7; sermon 99 at 13; engagement 46 at 7; finish 3 2;"
                + "finish 5 2; ship at 12 sees 37 fast 2");
        due(16, "behind 224", x.lands(0), NONE);
        x.go(23);
        due(16, "behind 201", x.lands(0), NONE);
        x.go(1);
        due(16, "behind 200", x.lands(0), 200);
        x.go(60);
        x.go(60);
        x.go(60);
        due(16, "behind 20", x.lands(0), 20);
        due(11, "not there yet", x.go(19), 0);
        due(11, "there", x.go(1), 1);
        due(16, "a plain one alone", from("plain 0 at 14; ship at 14 sees 0").lands(0), 1);
        for (int said = 0; said < 30; said++) {
            VaguePort y = from("promise 98; ship sees 99 fast 1");
            y.change(0, 4, said);
            // It is 98 and a tenth of said at cell 0: it goes on at once, or never.
            due(16, "said " + said, y.lands(0), said < 20 ? 15 : NONE);
        }
    }

    private static void whatToFinish() {
        VaguePort x = from("law 9 at 15; saying 50 at 2; saying 50 at 12; ship at 12;"
                + "ship at 2; ship at 2");
        due(19, "that which lets most go", x.finishFor(0, 5), 1);
        due(19, "n 0: all the same", x.finishFor(0, 0), 0);
        due(19, "a place that comes too late", x.finishFor(5, 3), 0);
        x.change(1, 3, 1);
        due(19, "now the other", x.finishFor(1, 6), 2);
        due(19, "list unchanged", x.listed(0), 8);
        x = from("plain 0 at 2; saying 40 at 2; ship at 1 fast 1");
        due(19, "not the plain one", x.finishFor(0, 3), 1);
        due(19, "too late to hinder", x.finishFor(3, 3), 0);
        x.list(0, 0);
        due(19, "what stands there is tried anew", x.finishFor(0, 3), 1);
        x = from("plain 0 at 2; will 40 at 2; ship at 2");
        due(19, "as vague as it resists", x.finishFor(0, 6), 1);
        due(19, "40 is told", x.finishFor(0, 40), 1);
        x = from("plain 0 at 2; promise 40 at 2 finished; plain 0 at 2; saying 70 at 2; ship at 1 fast 1");
        due(19, "a finished one does as well as none", x.finishFor(0, 3), 1);
        int[][] bad = {{-1, 0}, {6, 0}, {0, -1}, {0, 41}, {MAX, 0}, {0, MIN}};
        for (int[] b : bad) {
            due(19, "beyond", x.finishFor(b[0], b[1]), BEYOND);
        }
        x = from("engagement 20 at 3; ship at 3");
        due(20, "as a saying it lets go", x.kindFor(0, 5), 0);
        x.change(0, 2, 35);
        due(20, "as a sermon", x.kindFor(0, 5), 2);
        x.change(0, 2, 80);
        due(20, "plain", x.kindFor(0, 5), 5);
        due(20, "n 0", x.kindFor(0, 0), 0);
        due(20, "kind unchanged", x.of(0, 0), 4);
        int[][] bad2 = {{-1, 0}, {1, 0}, {0, -1}, {0, 41}, {MAX, 0}, {0, MIN}};
        for (int[] b : bad2) {
            due(20, "beyond", x.kindFor(b[0], b[1]), BEYOND);
        }
    }

    private static void noneIsBest() {
        // Ship 1 passes 7 on day 1 by all the plain ones' help; ship 0, at 2, is five off the
        // engagement, where half as vague makes it thicker: 128 - 5 * 25, not 212 - 5 * 42.
        VaguePort x = from("plain 0 at 6; plain 0 at 9; engagement 84 at 7; plain 0 at 6;"
                + "plain 0 at 8; plain 0 at 8; plain 0 at 9; plain 0 at 8");
        text(x, "ship at 0 sees 2; ship at 5 sees 44");
        due(19, "none", x.finishFor(0, 2), 8);
        due(19, "it matters no more", x.finishFor(1, 2), 0);
        VaguePort y = from("ship;ship;ship;ship;ship;ship;saying 99");
        for (int ship = 0; ship < 6; ship++) {
            y.steer(ship, 3, 9999);
        }
        due(19, "none can wait more", y.finishFor(0, 40), 0);
        due(20, "none can wait more", y.kindFor(0, 40), 0);
    }

    private static void eyesAndSpeed() {
        VaguePort x = from("saying 20 at 10; ship at 8; ship at 15; ship at 0 fast 1");
        due(21, "sees over it", x.eyesFor(0, 4), 21);
        due(21, "in port", x.eyesFor(1, 0), 0);
        due(21, "too far", x.eyesFor(2, 14), NONE);
        due(21, "far", x.eyesFor(2, 15), 30);
        due(21, "n 0", x.eyesFor(0, 0), NONE);
        due(22, "in port", x.speedFor(1, 0), 1);
        due(22, "fast", x.speedFor(0, 2), 4);
        due(22, "fastest", x.speedFor(2, 3), 5);
        due(22, "too far", x.speedFor(2, 2), NONE);
        due(22, "slow", x.speedFor(0, 7), 1);
        int[][] bad = {{-1, 0}, {3, 0}, {0, -1}, {0, 41}, {MAX, 0}, {0, MIN}};
        for (int[] b : bad) {
            due(21, "beyond", x.eyesFor(b[0], b[1]), BEYOND);
            due(22, "beyond", x.speedFor(b[0], b[1]), BEYOND);
        }
        due(22, "unchanged", x.ofShip(0, 2), 2);
        due(21, "unchanged", x.ofShip(0, 1), 30);
        x = from("will 60 at 0; ship");
        due(21, "not even with 99", x.eyesFor(0, 40), NONE);
        due(22, "not even with 5", x.speedFor(0, 40), NONE);
        x = from("saying 99 at 0; ship");
        due(21, "with 99", x.eyesFor(0, 8), 99);
    }

    private static void decisions() {
        VaguePort x = from("saying 50 at 5; saying 50 at 5; saying 99 at 7; ship at 5; ship at 10");
        due(23, "all three, one by one", x.decide(5), 7);
        due(23, "too few days", x.decide(4), NONE);
        x.change(0, 3, 1);
        due(23, "the rest", x.decide(5), 6);
        x.change(2, 1, 2);
        due(23, "one", x.decide(5), 2);
        x.change(1, 3, 1);
        due(23, "none needed", x.decide(5), 0);
        due(23, "in port", from("ship at 15; saying 99 at 15").decide(0), 0);
        due(23, "not yet", from("ship at 14").decide(0), NONE);
        due(23, "no ships", new VaguePort().decide(0), 0);
        x = from("saying 20 at 5; saying 20 at 5; saying 20 at 5; ship at 5 sees 40");
        due(23, "one of three, the least", x.decide(5), 1);
        x.steer(0, 1, 20);
        due(23, "two of three, the least", x.decide(5), 3);
        x = from("saying 20 at 5; saying 20 at 5; saying 40 at 5; ship at 5 sees 40");
        due(23, "fewest before least", x.decide(5), 4);
        for (int n : new int[] {-1, 17, MIN, MAX}) {
            due(23, "beyond", x.decide(n), BEYOND);
        }
        due(23, "16 is told", x.decide(16), 4);
        VaguePort y = from("ship at 5 sees 0 fast 1");
        for (int i = 0; i < 8; i++) {
            y.saying(0, 9, 5 + i);
        }
        due(23, "all eight", y.decide(10), 255);
        y.change(3, 1, 0);
        due(23, "seven, since one is out of the way", y.decide(16), 255 - 8);
        due(23, "unchanged", x.now(2), 0);
    }

    private static void toldThickness() {
        VaguePort x = from("law 40 at 5; saying 9 at 6; ship at 5");
        due(24, "no such sheet", x.fits(-1, 9), BEYOND);
        due(24, "no such sheet", x.fits(4, 0), BEYOND);
        due(24, "missing before beyond", x.fits(0, 9), MISSING);
        due(25, "no such sheet", x.kinds(-1, 9), BEYOND);
        due(25, "no such sheet", x.kinds(4, 0), BEYOND);
        due(25, "missing before beyond", x.kinds(0, 9), MISSING);
        row(x, 0, 8);
        due(24, "nothing told", x.fits(0, 0), 100);
        due(25, "nothing told", x.kinds(0, 0), 127);
        due(24, "no such saying", x.fits(0, 2), BEYOND);
        due(24, "no such saying", x.fits(0, -1), BEYOND);
        due(25, "no such saying", x.kinds(0, 2), BEYOND);
        due(25, "no such saying", x.kinds(0, -1), BEYOND);
        row(x, 0, 8, 35 + 8);
        due(24, "40 or 41", x.fits(0, 0), 2);
        due(25, "as a law", x.kinds(0, 0), 1 << 6);
        row(x, 0, 8, 43, 43 + 1);
        due(24, "41 alone is thicker the next day", x.fits(0, 0), 1);
        row(x, 0, 8, -1, -1, 45);
        due(24, "any", x.fits(0, 0), 2);
        row(x, 0, 16, -1, -1, -1, -1, -1, -1, -1, -1, 999);
        due(24, "the first 8 alone", x.fits(0, 0), 100);
        due(25, "the first 8 alone", x.kinds(0, 0), 127);
        row(x, 0, 16, -1, -1, -1, -1, -1, -1, -1, 999);
        due(24, "the 8th", x.fits(0, 0), 0);
        due(25, "the 8th", x.kinds(0, 0), 0);
        row(x, 0, 32, -2);
        due(24, "-2 is not any", x.fits(0, 0), 0);
        x.change(0, 3, 1);
        row(x, 1, 16, 8);
        due(24, "finished: all the same", x.fits(1, 0), 100);
        due(25, "finished: all the same", x.kinds(1, 0), 127);
        due(24, "unchanged", x.of(0, 2), 40);
        due(25, "unchanged", x.of(0, 0), 6);
        x = from("promise 12 at 3");
        row(x, 0, 16, 12, 14);
        due(25, "a promise", x.kinds(0, 0), 2);
        row(x, 0, 16, 12);
        due(25, "a promise or a saying", x.kinds(0, 0), 3);
        row(x, 0, 16, 0);
        due(25, "plain", x.kinds(0, 0), 32);
    }

    private static void committees() {
        VaguePort x = from("saying 10 at 3; saying 97 at 4 finished; ship at 12; ship at 0");
        int z = 1;
        int[] vague = {10, 97};
        boolean[] finished = {false, true};
        int[] list = {8, 8, 8, 8, 8, 8};
        for (int day = 0; day < 40; day++) {
            z = z * 1103515245 + 12345;
            list[day % 6] = (z >>> 8) % 9;
            z = z * 1103515245 + 12345;
            int vaguer = (z >>> 8) % 8;
            if (vaguer < 2) {
                vague[vaguer] = Math.min(99, vague[vaguer] + 5);
            }
            int toFinish = list[day % 6];
            if (toFinish < 2) {
                finished[toFinish] = true;
            }
            if (!finished[0]) {
                vague[0] = Math.min(99, vague[0] + 1);
            }
            x.committee(1);
            due(26, "z", x.count(6), z);
            due(26, "list", x.listed(day % 6), list[day % 6]);
            due(26, "vague", x.of(0, 2), vague[0]);
            due(26, "vague of a finished one", x.of(1, 2), vague[1]);
            due(26, "finished", x.of(0, 3), finished[0] ? 1 : 0);
            due(26, "day", x.now(0), day + 1);
        }
        due(26, "in port", x.committee(20), x.now(1));
        due(26, "twenty days", x.now(0), 60);
        VaguePort y = from("ship at 13");
        due(26, "in port", y.committee(1), 1);
        for (int n : new int[] {0, 21, -1, MIN, MAX}) {
            due(26, "beyond", y.committee(n), BEYOND);
        }
        due(26, "no day", y.now(0), 1);
        due(28, "was", y.seed(77), (1103515245 + 12345) * 1103515245 + 12345);
        due(28, "is", y.count(6), 77);
        due(28, "was", y.seed(-1000001), 77);
        due(28, "was, no finding", y.seed(MIN), -1000001);
        due(28, "no finding", y.status(-1), 5);
        due(28, "is", y.count(6), MIN);
    }

    private static void oddsOfGoing() {
        VaguePort x = from("saying 60 at 7; ship at 15; ship sees 60; ship sees 59");
        // At 15 it doesn't go on: 15 cells at most; 60, 48, 36 are too thick for one that sees 30.
        due(27, "ten of sixteen", x.odds(0, 1, 0), 5);
        due(27, "ten of sixteen", x.odds(0, 1, 1), 8);
        due(27, "cubed", x.odds(0, 3, 0), 125);
        due(27, "cubed", x.odds(0, 3, 1), 512);
        due(27, "no cells", x.odds(0, 0, 0), 1);
        due(27, "no cells", x.odds(0, 0, 1), 1);
        due(27, "15 of 16", x.odds(1, 15, 0), 437893890380859375L);
        due(27, "15 of 16", x.odds(1, 15, 1), 1L << 60);
        due(27, "14 of 16", x.odds(2, 2, 0), 49);
        due(27, "14 of 16", x.odds(2, 2, 1), 64);
        x = from("engagement 99 at 3; engagement 99 at 11; ship; ship");
        x.change(0, 4, 9999);
        x.change(1, 4, 9999);
        x.saying(4, 99, 8);
        x.steer(0, 1, 0);
        due(27, "never", x.odds(0, 3, 0), 0);
        due(27, "never", x.odds(0, 3, 1), 1);
        due(27, "never", x.odds(0, 15, 0), 0);
        due(27, "never", x.odds(0, 15, 1), 1);
        due(27, "no cells", x.odds(0, 0, 0), 1);
        int[][] bad = {{-1, 0, 0}, {2, 0, 0}, {0, -1, 0}, {0, 16, 0}, {0, 0, -1}, {0, 0, 2}};
        for (int[] b : bad) {
            due(27, "beyond", x.odds(b[0], b[1], b[2]), BEYOND);
        }
        due(27, "counted", x.status(0), 6);
        VaguePort y = from("saying 40 at 3; saying 50 at 14; ship sees 0; ship sees 34; ship sees 44");
        // Thick at 1 to 5 (24, 32, 40, 32, 24) and at 12 to 14 (30, 40, 50); 15 is never gone on from.
        int[] good = {7, 12, 14};
        for (int ship = 0; ship < 3; ship++) {
            for (int n = 0; n <= 15; n++) {
                long above = 1;
                long below = 1;
                for (int i = 0; i < n; i++) {
                    int common = good[ship] == 12 ? 4 : good[ship] == 14 ? 2 : 1;
                    above *= good[ship] / common;
                    below *= 16 / common;
                }
                due(27, "above, ship " + ship + ", n " + n, y.odds(ship, n, 0), above);
                due(27, "below, ship " + ship + ", n " + n, y.odds(ship, n, 1), below);
            }
        }
    }

    private static void theTape() {
        VaguePort x = new VaguePort();
        for (int n : new int[] {0, 5, -1, MIN, MAX}) {
            due(29, "beyond", x.feed(0x6c617720, n), BEYOND);
        }
        due(29, "four", x.feed(0x6c617720, 4), 4);
        due(29, "the lowest one", x.feed(0x61626337, 1), 5);
        due(31, "law 7", x.text(), 1);
        due(31, "vague", x.of(0, 2), 7);
        due(29, "three", x.feed(0xff6c6177, 3), 3);
        due(29, "two", x.feed(0x12343132, 2), 5);
        due(42, "bytes", x.count(5), 5);
        due(31, "law12", x.text(), 1);
        due(31, "tape is empty", x.count(5), 0);
        due(31, "vague", x.of(1, 2), 12);
        for (int i = 0; i < 29; i++) {
            x.feed(0, 4);
        }
        due(29, "118", x.feed(0, 2), 118);
        due(29, "full", x.feed(0, 3), FULL);
        due(29, "beyond before full", x.feed(0, 5), BEYOND);
        due(29, "120", x.feed(0, 2), 120);
        due(29, "full", x.feed(0, 1), FULL);
        due(30, "wipe", x.wipe(), 120);
        due(30, "wipe", x.wipe(), 0);
        due(30, "empty", x.count(5), 0);
        due(29, "anew", x.feed(-1, 4), 4);
        due(31, "a byte that begins no token", x.text(), -1);
    }

    private static void fault(String text, int place) {
        VaguePort x = from("law 1 at 2; ship at 3");
        x.list(5, 4);
        due(31, "fault in '" + text + "'", text(x, text), -1 - place);
        due(31, "tape is empty after '" + text + "'", x.count(5), 0);
        due(31, "no new saying by '" + text + "'", x.count(1), 1);
        due(31, "no new ship by '" + text + "'", x.count(2), 1);
        due(31, "list unchanged by '" + text + "'", x.listed(0) * 10 + x.listed(5), 84);
        due(31, "no finding", x.status(-1), 0);
    }

    private static void texts() {
        VaguePort x = new VaguePort();
        due(31, "all kinds", text(x, "saying 0;promise 1;sermon 2;will 3;engagement 4;plain 5;law 6"),
                7);
        for (int kind = 0; kind < 7; kind++) {
            due(31, "kind", x.of(kind, 0), kind);
            due(31, "vague", x.of(kind, 2), kind);
            due(31, "cell", x.of(kind, 1), 0);
            due(31, "said", x.of(kind, 4), 0);
            due(31, "finished", x.of(kind, 3), 0);
        }
        due(31, "all of it", text(x, "  will 99 at 15 said 9999 finished  "), 1);
        int[] all = {3, 15, 99, 1, 9999};
        for (int what = 0; what < 5; what++) {
            due(31, "of 7", x.of(7, what), all[what]);
        }
        due(31, "ships", text(x, "ship;ship at 15;ship sees 0;ship fast 5;ship at 1 sees 99 fast 1"), 5);
        int[][] ships = {{0, 30, 2, 0}, {15, 30, 2, 0}, {0, 0, 2, 0}, {0, 30, 5, 0}, {1, 99, 1, 0}};
        for (int ship = 0; ship < 5; ship++) {
            for (int what = 0; what < 4; what++) {
                due(31, "ship " + ship, x.ofShip(ship, what), ships[ship][what]);
            }
        }
        due(31, "list", text(x, "finish 0 8; finish 5 7;finish 0 1"), 3);
        due(31, "list", x.listed(0) * 10 + x.listed(5), 17);
        due(31, "no blanks", text(x, "finish1 2;ship"), 2);
        due(31, "list", x.listed(1), 2);
        due(31, "zeros ahead", text(x, "finish 00000000003 0000008"), 1);
        x = new VaguePort();
        due(31, "no blanks", text(x, "law1at2said3finished;plain004"), 2);
        due(31, "said", x.of(0, 4) * 10 + x.of(0, 3), 31);
        due(31, "0 is told", text(x, "law 0 at 0 said 0; ship at 0 sees 0 fast 1; finish 0 0"), 3);
        due(31, "zeros", x.of(1, 2), 4);
    }

    private static void faults() {
        String[] texts = {"", "   ", "law", "law ", "law 100", "law 10000", "law at", "Law 1",
            "law 1 ;", "law 1;;", ";", "law 1 at", "law 1 at 16", "law 1 at law", "law 1 said",
            "law 1 said 10000", "law 1 said 1 at 1", "law 1 finished at 1", "law 1 finished finished",
            "law 1 law 1", "law 1 1", "laws 1", "la w 1", "law -1", "law 1\tat 1", "law 1.",
            "ship at 16", "ship 1", "ship sees 100", "ship fast 0", "ship fast 6", "ship fast 1 sees 1",
            "ship sees 1 at 1", "ship said 1", "ship finished", "ship at 1 at 1", "ships",
            "finish", "finish 6 0", "finish 0 9", "finish 0", "finish 0 0 0", "finish 05", "finish x",
            "finished", "finish 0 0 finished", "at 1", "1", "finish 0 0; law 1; ship at 77",
            "xaw 1", "xhip", "xinish 0 0", "law 1 xt 1", "law 1 xaid 1", "law 1 xinished",
            "ship xees 1", "ship xast 1", "law 99999999999999999999", "law 4294967296", "law 1 said 4294967297", "lawz1",
            "finish 0 0;finish 5 5;engagement 1 at 1 said 1 finish"};
        int[] places = {0, 3, 3, 4, 4, 4, 4, 0,
            7, 6, 0, 8, 9, 9, 10,
            11, 13, 15, 15,
            6, 6, 0, 0, 4, 5, 5,
            8, 5, 10, 10, 10, 12,
            12, 5, 5, 10, 0,
            6, 7, 9, 8, 11, 9, 7,
            0, 11, 0, 0, 27,
            0, 0, 0, 6, 6, 6,
            5, 5, 4, 4, 11, 0,
            47};
        for (int i = 0; i < texts.length; i++) {
            fault(texts[i], places[i]);
        }
        VaguePort x = from("law 1;law 1;law 1;law 1;law 1;law 1;law 1");
        due(31, "the ninth's own word", text(x, "law 1; law 999"), -1 - 7);
        due(31, "the ninth's own word", text(x, "law 1; law 1"), -1 - 7);
        due(31, "none came", x.count(1), 7);
        due(31, "another word", text(x, "law 1; foo"), -1 - 7);
        x = from("ship;ship;ship;ship;ship;ship");
        due(31, "the seventh's own word", text(x, "law 1; ship at 99"), -1 - 7);
        due(31, "none came", x.count(1), 0);
    }

    private static void spots() {
        VaguePort x = new VaguePort();
        due(32, "no saying yet", x.hold(0, 0), BEYOND);
        for (int kind = 0; kind < 7; kind++) {
            x.saying(kind, 1, 1);
        }
        boolean[][] under = new boolean[7][7];
        int[] parents = {-1, 0, 0, 1, 3, 0, 2};
        for (int kind = 0; kind < 7; kind++) {
            for (int k = kind; k >= 0; k = parents[k]) {
                under[kind][k] = true;
            }
            due(32, "holds", x.hold(kind + 3, kind), 1);
        }
        for (int kind = 0; kind < 7; kind++) {
            for (int k = 0; k < 7; k++) {
                due(33, kind + " as " + k, x.as(kind + 3, k), under[kind][k] ? kind : KIND);
            }
        }
        due(42, "spots", x.count(7), 7);
        due(33, "nothing", x.as(0, 0), MISSING);
        due(33, "beyond first", x.as(0, 7), BEYOND);
        due(33, "beyond", x.as(0, -1), BEYOND);
        due(33, "beyond", x.as(-1, 0), BEYOND);
        due(33, "beyond", x.as(10, 0), BEYOND);
        x.change(4, 0, 2);
        due(33, "its kind now", x.as(7, 2), 4);
        due(33, "its kind now", x.as(7, 4), KIND);
        due(32, "nothing", x.hold(7, -1), 1);
        due(33, "nothing", x.as(7, 2), MISSING);
        due(32, "nothing again", x.hold(7, -1), 1);
        due(42, "spots", x.count(7), 6);
        int[][] bad = {{-1, 0}, {10, 0}, {0, -2}, {0, 7}, {MIN, -1}, {0, MAX}};
        for (int[] b : bad) {
            due(32, "beyond", x.hold(b[0], b[1]), BEYOND);
        }
    }

    private static void sheets() {
        VaguePort x = new VaguePort();
        for (int bits : new int[] {8, 16, 32}) {
            due(34, "n", x.sheet(0, bits, 40), 40);
            due(34, "n", x.sheet(3, bits, 0), 0);
            due(35, "last", x.write(0, 39, 1), 1);
            due(35, "no such number", x.write(0, 40, 1), BEYOND);
            due(35, "no such number", x.write(0, -1, 1), BEYOND);
            due(35, "no such number", x.write(3, 0, 1), BEYOND);
        }
        due(34, "missing", x.sheet(0, 0, 7), 0);
        due(35, "missing", x.write(0, 50, 1), MISSING);
        due(35, "no such sheet", x.write(4, 0, 0), BEYOND);
        due(35, "no such sheet", x.write(-1, 0, 0), BEYOND);
        int[][] bad = {{-1, 8, -1}, {4, 8, 1}, {0, 1, -1}, {0, -8, 1}, {0, 64, 1}, {0, 8, 41},
            {0, 8, MAX}, {MIN, 8, 1}, {0, 0, 41}};
        for (int[] b : bad) {
            due(34, "beyond", x.sheet(b[0], b[1], b[2]), BEYOND);
        }
        due(34, "below 0", x.sheet(0, 8, -1), SIZE);
        due(34, "below 0, with bits 0", x.sheet(0, 0, -1), SIZE);
        due(34, "below 0", x.sheet(0, 32, MIN), SIZE);
        due(34, "still missing", x.load(0), MISSING);
        x = from("law 50; law 50; law 50");
        row(x, 1, 8, 256 + 5, 511, 0);
        due(35, "lowest bits", x.load(1), 1);
        due(35, "lowest bits", x.of(0, 2), 5);
        row(x, 1, 16, 65536 + 6, 65535, 0);
        due(35, "lowest bits", x.load(1), 1);
        due(35, "lowest bits", x.of(0, 2), 6);
        row(x, 1, 32, 7, 65536 + 7, 0);
        due(35, "lowest bits", x.load(1), 1);
        due(35, "lowest bits", x.of(0, 2), 7);
        x.sheet(1, 32, 3);
        due(34, "all 0", x.load(1), 3);
        due(34, "all 0", x.now(3), 0);
    }

    private static void loads() {
        VaguePort x = from("law 50; law 51; law 52 finished");
        due(37, "no such sheet", x.load(-1), BEYOND);
        due(37, "no such sheet", x.load(4), BEYOND);
        due(37, "missing", x.load(2), MISSING);
        row(x, 2, 16, 0, 99, 100, 3);
        due(37, "till the first that can't be", x.load(2), 2);
        due(37, "0", x.of(0, 2), 0);
        due(37, "99", x.of(1, 2), 99);
        due(37, "not come", x.of(2, 2), 52);
        row(x, 2, 8, 1, 2, 3, 4);
        due(37, "till there is no saying", x.load(2), 3);
        due(37, "a finished one, too", x.of(2, 2), 3);
        row(x, 2, 8, 9);
        due(37, "as many as there are", x.load(2), 1);
        row(x, 2, 8, -1, 9);
        due(37, "none", x.load(2), 0);
        due(37, "unchanged", x.of(0, 2), 9);
        row(x, 2, 8);
        due(37, "no numbers", x.load(2), 0);
    }

    private static void judges() {
        VaguePort x = from("ship at 3; ship at 0; ship at 15");
        due(38, "no such sheet", x.judge(-1), BEYOND);
        due(38, "no such sheet", x.judge(4), BEYOND);
        due(38, "missing", x.judge(2), MISSING);
        row(x, 2, 8, 3, 0, 15);
        due(38, "so", x.judge(2), 0);
        row(x, 2, 8, 3, 0);
        due(38, "so, of the first two", x.judge(2), 0);
        row(x, 2, 8);
        due(38, "no numbers", x.judge(2), 0);
        row(x, 2, 8, 3, 1, 14);
        due(38, "the second isn't", x.judge(2), 2);
        row(x, 2, 8, 4, 0, 15);
        due(38, "the first isn't", x.judge(2), 1);
        row(x, 2, 8, 3, 0, 15, 0);
        due(38, "no fourth ship", x.judge(2), 4);
    }

    private static void copies() {
        VaguePort x = from("law 50;law 50;law 50;law 50;law 50");
        due(36, "no such sheet", x.copy(-1, 0, 0, 0, 0), BEYOND);
        due(36, "no such sheet", x.copy(0, 0, 4, 0, 0), BEYOND);
        due(36, "both missing", x.copy(0, 0, 1, 0, 0), MISSING);
        row(x, 0, 8, 1, 2, 3, 4, 5);
        due(36, "one missing", x.copy(0, 0, 1, 0, 0), MISSING);
        due(36, "one missing", x.copy(1, 0, 0, 0, 0), MISSING);
        x.sheet(1, 16, 5);
        due(36, "other bits, before beyond", x.copy(0, -1, 1, 0, 0), KIND);
        x.sheet(1, 8, 4);
        int[][] bad = {{-1, 0, 1}, {0, -1, 1}, {0, 0, -1}, {0, 0, 5}, {3, 0, 3}, {0, 2, 3},
            {6, 0, 0}, {0, 5, 0}, {MAX, 0, 1}, {0, MAX, 1}, {0, 0, MAX}, {1, 0, MAX}, {MAX, MAX, MAX}};
        for (int[] b : bad) {
            due(36, "beyond", x.copy(0, b[0], 1, b[1], b[2]), BEYOND);
        }
        due(36, "none", x.copy(0, 5, 1, 4, 0), 0);
        due(36, "three", x.copy(0, 2, 1, 1, 3), 3);
        due(36, "came", x.load(1), 4);
        due(36, "came", digits(x), 3450 + 50);
        due(36, "over itself", x.copy(0, 0, 0, 1, 4), 4);
        x.load(0);
        due(36, "as they all were", digits(x), 11234);
        row(x, 0, 8, 1, 2, 3, 4, 5);
        due(36, "over itself", x.copy(0, 1, 0, 0, 4), 4);
        x.load(0);
        due(36, "as they all were", digits(x), 23455);
    }

    /** How vague sayings 0 to 4 are, by digits; one of more than a digit spoils the sum. */
    private static int digits(VaguePort x) {
        int all = 0;
        for (int i = 0; i < 5; i++) {
            all = all * 10 + x.of(i, 2);
        }
        return all;
    }

    private static void images() {
        VaguePort x = from("law 50 at 3; ship at 4");
        x.hold(2, 0);
        x.list(3, 2);
        x.seed(99);
        x.go(3);
        row(x, 1, 8, 7);
        due(39, "image", x.image(), 1);
        x.go(2);
        x.saying(1, 1, 1);
        x.ship(1, 1);
        x.list(3, 1);
        x.hold(2, 1);
        x.hold(5, 1);
        x.change(0, 1, 9);
        x.steer(0, 1, 77);
        x.committee(1);
        row(x, 1, 8, 8);
        tape(x, "law 9");
        x.now(99);
        due(40, "day", x.undo(), 3);
        due(40, "day", x.count(0), 3);
        due(40, "sayings", x.count(1), 1);
        due(40, "ships", x.count(2), 1);
        due(40, "z", x.count(6), 99);
        due(40, "spots", x.count(7), 1);
        due(40, "spot", x.as(2, 0), 0);
        due(40, "list", x.listed(3), 2);
        due(40, "cell", x.of(0, 1), 3);
        due(40, "vague", x.of(0, 2), 53);
        due(40, "ship's cell", x.ofShip(0, 0), 4);
        due(40, "waited", x.ofShip(0, 3), 3);
        due(40, "sees", x.ofShip(0, 1), 30);
        due(40, "the tape stays", x.count(5), 5);
        due(40, "findings stay", x.status(0), 1);
        due(39, "sheets are not kept", x.load(1), 1);
        due(39, "sheets are not kept", x.of(0, 2), 8);
        x.go(5);
        due(40, "it stays", x.undo(), 3);
        due(40, "it stays", x.of(0, 2), 53);
        x.go(1);
        due(39, "image anew", x.image(), 1);
        x.go(1);
        due(40, "the latest", x.undo(), 4);
        due(41, "something was", x.tear(), 1);
        due(41, "nothing was", x.tear(), 0);
        due(40, "nothing", x.undo(), NONE);
        due(40, "unchanged", x.now(0), 4);
        due(39, "again", x.image(), 1);
        due(40, "again", x.undo(), 4);
        due(41, "again", x.tear(), 1);
    }

    private static void counts() {
        VaguePort x = from("law 50 at 3; law 1 finished; plain 1 finished; ship at 4; ship at 0");
        x.steer(0, 3, 4);
        x.steer(1, 3, 5);
        x.go(2);
        x.feed(1, 3);
        x.hold(0, 0);
        x.hold(9, 0);
        x.steer(0, 3, 6);
        x.steer(1, 3, 5);
        int[] due = {2, 3, 2, 11, 2, 3, 1, 2};
        for (int what = 0; what < 8; what++) {
            due(42, "count " + what, x.count(what), due[what]);
        }
        for (int what : new int[] {-1, 8, MIN, MAX}) {
            due(42, "beyond", x.count(what), BEYOND);
        }
    }

    private static void statuses() {
        VaguePort x = new VaguePort();
        x.undo();
        x.undo();
        x.as(0, 0);
        x.sheet(0, 8, -1);
        for (int i = 0; i < 6; i++) {
            x.ship(1, 1);
        }
        x.ship(1, 1);
        x.saying(1, 1, 1);
        x.hold(0, 0);
        x.as(0, 4);
        x.as(0, 5);
        x.as(0, 6);
        x.go(0);
        x.odds(9, 9, 9);
        int[] due = {2, 1, 3, 2, 0, 1, 1};
        for (int which = 0; which < 7; which++) {
            due(43, "status " + which, x.status(which), due[which]);
        }
        due(43, "all", x.status(-1), 10);
        due(43, "beyond", x.status(-2), BEYOND);
        due(43, "beyond", x.status(7), BEYOND);
        due(43, "beyond", x.status(MIN), BEYOND);
        due(43, "beyond", x.status(MAX), BEYOND);
        due(43, "counted", x.status(0), 6);
        due(43, "all", x.status(-1), 14);
        x.image();
        x.listed(6);
        x.undo();
        due(43, "undo takes none back", x.status(-1), 15);
    }

    public static void main(String[] args) {
        aNewObject();
        theList();
        sayings();
        ships();
        whatSayingsDo();
        changes();
        thickness();
        days();
        daysFinish();
        daysInOrder();
        endOfDays();
        nowTells();
        whatWillBe();
        whenItWillBe();
        edgeOfLooking();
        whatToFinish();
        landsAtTheEdge();
        noneIsBest();
        eyesAndSpeed();
        decisions();
        toldThickness();
        committees();
        oddsOfGoing();
        theTape();
        texts();
        faults();
        spots();
        sheets();
        loads();
        judges();
        copies();
        images();
        counts();
        statuses();
        System.out.println(asked + " answers asked, " + wrong + " not as due");
        if (wrong != 0) {
            System.exit(1);
        }
    }
}
