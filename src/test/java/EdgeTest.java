import java.io.IOException;
import java.nio.file.Path;
import java.util.ArrayList;
import java.util.Arrays;
import java.util.List;

/**
 * Each sentence of the document that names a boundary, quoted, with a run of calls of its own on a
 * new object (see Script). At the end the document is asked whether a boundary was left out.
 */
public final class EdgeTest {
    private static final int TERMS = 0;
    private static final String EIGHT_SAYINGS = "say 'saying 0;promise 1;sermon 2;will 3;engagement"
            + " 4;plain 5;law 6;law 7' = 8";
    private static final String SIX_SHIPS = "say 'ship;ship;ship;ship;ship;ship' = 6";

    private static Document document;
    private static int sentences = 0;
    private static int wrong = 0;

    private static void wrong(String what) {
        wrong++;
        System.out.println(what);
    }

    /** Rows are texts, or arrays of texts. */
    private static void edge(int promise, String sentence, Object... rows) {
        run(promise, sentence, false, rows);
    }

    private static void run(int promise, String sentence, boolean mayGoOn, Object... rows) {
        sentences++;
        String notSaid = document.quote(promise, sentence);
        if (notSaid != null) {
            wrong(notSaid);
        }
        List<String> flat = new ArrayList<>();
        for (Object row : rows) {
            if (row instanceof String[] several) {
                flat.addAll(Arrays.asList(several));
            } else {
                flat.add((String) row);
            }
        }
        for (String fault : Script.faults(flat, mayGoOn)) {
            wrong("promise " + promise + ", '" + sentence + "': " + fault);
        }
    }

    private static String[] times(int n, String row) {
        String[] rows = new String[n];
        Arrays.fill(rows, row);
        return rows;
    }

    /**
     * Calls that are refused: each argument in turn is just below its least, just above its most,
     * the least and the most int, while all the others are told as the base says.
     */
    private static String[] outside(String base, int... leastAndMost) {
        List<String> rows = new ArrayList<>();
        String[] words = base.split(" ");
        for (int i = 0; i < leastAndMost.length / 2; i++) {
            String[] bad = {"" + (leastAndMost[2 * i] - 1), "" + (leastAndMost[2 * i + 1] + 1),
                "MIN", "MAX"};
            for (String argument : bad) {
                String[] call = words.clone();
                call[i + 1] = argument;
                rows.add(String.join(" ", call) + " = BEYOND");
            }
        }
        return rows.toArray(new String[0]);
    }

    // ---- Terms, the first paragraph

    private static void findings() {
        edge(TERMS, "LOW is -1000001; LOW BEYOND, LOW - 1 FULL, LOW - 2 KIND, LOW - 3 NONE",
                "thick 16 = -1000001", SIX_SHIPS, "ship 0 1 = -1000002", "saying 0 1 1 = 0",
                "hold 0 0 = 1", "as 0 6 = -1000003", "undo = -1000004");
        run(TERMS, "LOW - 4 STATE", true, times(1666, "go 60"), "go 40 = -1000005");
        edge(TERMS, "LOW - 5 MISSING, LOW - 6 SIZE (in longs, too)", "load 0 = -1000006",
                "sheet 0 8 -1 = -1000007", "odds 0 0 0 = -1000001");
        edge(TERMS, "Each act tells its findings in the order in which they are asked",
                EIGHT_SAYINGS, SIX_SHIPS,
                "saying 7 0 0 = BEYOND", "saying 0 0 0 = FULL", "ship 16 1 = BEYOND", "ship 0 1 = FULL",
                "fits 4 8 = BEYOND", "fits 0 8 = MISSING", "kinds 4 8 = BEYOND", "kinds 0 8 = MISSING",
                "as 10 0 = BEYOND", "as 0 7 = BEYOND", "as 0 6 = MISSING",
                "sheet 4 8 -1 = BEYOND", "sheet 0 9 -1 = BEYOND", "sheet 0 8 -1 = SIZE",
                "write 4 99 0 = BEYOND", "write 0 99 0 = MISSING",
                "copy 4 -1 0 -1 -1 = BEYOND", "copy 0 -1 4 -1 -1 = BEYOND",
                "copy 0 -1 1 -1 -1 = MISSING", "sheet 0 8 3 = 3", "sheet 1 16 3 = 3",
                "copy 0 -1 1 -1 -1 = KIND", "hold 0 2 = 1", "as 0 7 = BEYOND", "as 0 6 = KIND");
        edge(TERMS, "one that answers a finding changes nothing but status()",
                (Object) refusedOnes());
        edge(TERMS, "Quotients are cut",
                "say 'sermon 99;promise 0 said 9999;saying 9 at 9;law 21 at 15;finish 0 3' = 5",
                "of 0 5 = 49", "of 1 5 = 999", "thick 10 = 8", "go 1 = 0", "of 3 2 = 11");
        edge(TERMS, "Sets are told as bits; of several that would do the least number counts",
                "say 'saying 20 at 3;saying 20 at 9;saying 0 at 5 finished;saying 0 finished' = 4",
                "say 'ship at 15;ship at 3 sees 0;ship at 15;ship at 9 sees 20' = 4",
                "now 1 = 5", "now 2 = 12", "now 5 = 3", "now 6 = 61505", "now 7 = 8");
        edge(TERMS, "where nothing else is told",
                "say 'saying 20;saying 20;saying 40;ship sees 40' = 4", "decide 8 = 4");
        edge(TERMS, "---- what will be (nothing changes)",
                "say 'law 21 at 3;will 9 at 9;finish 0 0;finish 5 1;ship at 3;ship at 9 fast 1' = 6",
                "ahead 0 2 9 = 16", "ahead 1 3 6 = 1", "later 0 0 100 = 15", "fog 3 100 = 0",
                "lands 0 = 6", "lands 1 = 6", "closes 3 25 = 0", "closes 3 26 = NONE", "settled = 7",
                "now 0 = 0");
    }

    /** A run with something of everything, and then a refused call of each act that has one. */
    private static String[] refusedOnes() {
        return new String[] {
            "say 'law 20 at 3 said 7; will 30 at 9 said 11; plain 5 at 12 finished; finish 4 1' = 4",
            "say 'ship at 2 sees 40 fast 3; ship at 9 sees 1; ship at 15' = 3",
            "seed 4711 = 1", "hold 3 1 = 1", "hold 9 2 = 1", "row 0 8: 1 2 3", "row 2 16: 4 5", "go 3",
            "image = 1", "committee 2", "tape 'finish 2 2;ship at 7' = 20",
            "list 0 9 = BEYOND", "listed 6 = BEYOND", "saying 0 0 16 = BEYOND", "ship 0 6 = BEYOND",
            "of 3 0 = BEYOND", "change 1 2 100 = BEYOND", "ofShip 3 0 = BEYOND",
            "steer 1 2 0 = BEYOND", "thick -1 = BEYOND", "go 0 = BEYOND", "go 61 = BEYOND",
            "now 8 = BEYOND", "ahead 0 2 101 = BEYOND", "later 0 0 101 = BEYOND",
            "fog 0 101 = BEYOND", "lands 3 = BEYOND", "closes 0 1000 = BEYOND", "closes 0 999 = NONE",
            "finishFor 0 41 = BEYOND", "kindFor 0 41 = BEYOND", "eyesFor 0 41 = BEYOND",
            "speedFor 0 41 = BEYOND", "eyesFor 0 0 = NONE", "speedFor 0 0 = NONE",
            "decide 17 = BEYOND", "decide 0 = NONE", "fits 4 0 = BEYOND", "fits 1 0 = MISSING",
            "fits 0 3 = BEYOND", "kinds 4 0 = BEYOND", "kinds 1 0 = MISSING", "kinds 0 3 = BEYOND",
            "committee 0 = BEYOND", "committee 21 = BEYOND", "odds 0 16 0 = BEYOND",
            "feed 0 0 = BEYOND", "feed 0 5 = BEYOND", "hold 3 3 = BEYOND", "as 3 7 = BEYOND",
            "as 0 0 = MISSING", "as 3 6 = KIND", "sheet 0 7 1 = BEYOND", "sheet 0 8 -1 = SIZE",
            "sheet 0 0 -1 = SIZE", "sheet 0 8 41 = BEYOND", "write 0 3 9 = BEYOND",
            "write 1 0 9 = MISSING", "copy 0 0 4 0 1 = BEYOND", "copy 0 0 1 0 1 = MISSING",
            "copy 0 0 2 0 1 = KIND", "copy 0 0 0 1 3 = BEYOND", "load 4 = BEYOND",
            "load 1 = MISSING", "judge 4 = BEYOND", "judge 1 = MISSING", "count 8 = BEYOND",
            "status 7 = BEYOND"};
    }

    // ---- Terms 1: cells, the list, sayings, ships

    private static void cellsAndList() {
        edge(TERMS, "CELLS 0 to 15 in a row; the port is at 15",
                "say 'saying 50 at 0;saying 50 at 15;ship at 14;ship at 15' = 4",
                "thick 0 = 50", "thick 1 = 40", "thick 2 = 30", "thick 3 = 0", "thick 12 = 0",
                "thick 13 = 30", "thick 14 = 40", "thick 15 = 50", "thick -1 = BEYOND",
                "thick 16 = BEYOND", "now 1 = 2");
        edge(TERMS, "six numbers, one for DAY modulo 6",
                "say 'saying 9 at 3;saying 9 at 4' = 2", "go 5 = 0", "list 0 0 = 8", "list 5 1 = 8",
                "now 2 = 0", "go 1 = 0", "now 2 = 2", "go 1 = 0", "now 2 = 3", "list 6 0 = BEYOND");
        edge(TERMS, "which SAYING is finished then (0 to 7; 8: none; 8 at first)",
                EIGHT_SAYINGS, "listed 0 = 8", "listed 5 = 8", "go 1 = 0", "now 2 = 0",
                "list 1 8 = 8", "go 1 = 0", "now 2 = 0", "list 2 7 = 8", "go 1 = 0", "now 2 = 128",
                "list 3 0 = 8", "go 1 = 0", "now 2 = 129", "list 0 9 = BEYOND", "list 0 -1 = BEYOND");
    }

    private static void whatSayingsHave() {
        edge(TERMS, "SAYINGS 0, 1, .. (at most 8)", times(7, "saying 0 0 0"), "saying 0 0 0 = 7",
                "saying 0 0 0 = FULL", "count 1 = 8", "of 7 0 = 0", "of 8 0 = BEYOND");
        edge(TERMS, "VAGUE (0 to 99)", "saying 0 0 0 = 0", "saying 0 99 0 = 1",
                "saying 0 -1 0 = BEYOND", "saying 0 100 0 = BEYOND", "change 0 2 99 = 0",
                "change 0 2 100 = BEYOND", "change 0 2 -1 = BEYOND", "change 0 2 0 = 99");
        edge(TERMS, "FINISHED or not (1, 0; 0 at first)", "saying 0 5 0 = 0", "of 0 3 = 0",
                "change 0 3 2 = BEYOND", "change 0 3 -1 = BEYOND", "change 0 3 1 = 0", "thick 0 = 0",
                "change 0 3 0 = 1", "thick 0 = 5");
        edge(TERMS, "SAID (DAYS; 0 to 9999; 0 at first)", "saying 0 5 0 = 0", "of 0 4 = 0",
                "change 0 4 10000 = BEYOND", "change 0 4 -1 = BEYOND", "change 0 4 9999 = 0",
                "change 0 4 0 = 9999");
    }

    private static void whatKindsDo() {
        edge(TERMS, "THICKENS (so thick where it is, if it isn't FINISHED; may be below 0)",
                "say 'plain 99 at 4;saying 40 at 4;saying 50 at 9 finished' = 3", "of 0 5 = -30",
                "thick 4 = 10", "thick 9 = 0");
        edge(TERMS, "as a SAYING, and a tenth (cut) of SAID",
                "say 'promise 5;promise 5 said 9;promise 5 said 10;promise 5 said 19' = 4",
                "say 'promise 5 said 9999;promise 99 said 9999' = 2", "of 0 5 = 5", "of 1 5 = 5",
                "of 2 5 = 6", "of 3 5 = 6", "of 4 5 = 1004", "of 5 5 = 1098");
        edge(TERMS, "WILL: twice a PROMISE. ENGAGEMENT: as a WILL, and 40",
                "say 'will 5 said 19;will 0;will 99 said 9999' = 3", "of 0 5 = 12", "of 1 5 = 0",
                "of 2 5 = 2196", "say 'engagement 5 said 19;engagement 0' = 2", "of 3 5 = 52",
                "of 4 5 = 40");
        edge(TERMS, "half (cut) of a SAYING. LAW: as a SERMON, and 15. PLAIN: -30",
                "say 'sermon 0;sermon 1;sermon 2;sermon 99;law 0;law 99;plain 0;plain 99' = 8",
                "of 0 5 = 0", "of 1 5 = 0", "of 2 5 = 1", "of 3 5 = 49", "of 4 5 = 15",
                "of 5 5 = 64", "of 6 5 = -30", "of 7 5 = -30");
        reaches();
        edge(TERMS, "and 3, if DAY is odd", "say 'engagement 0;will 0' = 2", "of 0 7 = 2", "go 1 = 0",
                "of 0 7 = 5", "of 1 7 = 2", "of 0 2 = 2", "go 1 = 0", "of 0 7 = 2", "of 0 2 = 7");
        edge(TERMS, "7, if DAY leaves 6 by 7, else -1. LAW: as a SERMON, and 2. PLAIN: 0",
                "say 'sermon 50;law 50;plain 50' = 3", "of 0 7 = -1", "of 1 7 = 1", "of 2 7 = 0",
                "go 5 = 0", "of 0 7 = -1", "go 1 = 0", "of 0 7 = 7", "of 1 7 = 9", "of 2 7 = 0",
                "go 1 = 0", "of 0 7 = -1", "of 1 7 = 1", "go 6 = 0", "of 0 7 = 7", "go 1 = 0",
                "of 0 7 = -1");
        edge(TERMS, "BLURS (VAGUE more in a DAY, if it isn't FINISHED)",
                "say 'saying 5 finished;saying 5;plain 5' = 3", "go 1 = 0", "of 0 2 = 5",
                "of 1 2 = 6", "of 2 2 = 5");
        resists();
    }

    private static void reaches() {
        int[] reach = {2, 2, 4, 1, 5, 3, 3};
        List<String> rows = new ArrayList<>();
        for (int kind = 0; kind < 7; kind++) {
            rows.add("saying " + kind + " 22 7 = " + kind);
            rows.add("of " + kind + " 6 = " + reach[kind]);
            rows.add("change " + kind + " 3 1 = 0");
        }
        // Where nothing else is, all but a plain one show by being seen; that one by what it takes.
        for (int kind : new int[] {0, 1, 2, 3, 4, 6}) {
            rows.add("change " + kind + " 3 0 = 1");
            rows.add("now 6 = " + (0xffff & ~((1 << 2 * reach[kind] + 1) - 1 << 7 - reach[kind])));
            rows.add("change " + kind + " 3 1 = 0");
        }
        rows.addAll(Arrays.asList("change 5 3 0 = 1", "change 0 3 0 = 1", "change 0 2 99 = 22",
                "change 0 1 3 = 7", "thick 3 = 99", "thick 4 = 59", "change 0 1 11 = 3",
                "thick 11 = 99", "thick 10 = 59"));
        edge(TERMS, "REACHES (CELLS to both sides)", (Object) rows.toArray(new String[0]));
    }

    private static void resists() {
        edge(TERMS, "RESISTS (how VAGUE it may be to be finished by THE LIST; more VAGUE: it becomes"
                + " half as VAGUE, cut, instead): SAYING: 99",
                "say 'saying 99;law 21 at 5;finish 0 0;finish 1 1' = 4", "go 1 = 0", "of 0 3 = 1",
                "of 0 2 = 99", "of 1 2 = 22", "change 1 2 21 = 22", "go 1 = 0", "of 1 3 = 0",
                "of 1 2 = 11");
        edge(TERMS, "less 19. WILL: half (cut) of a PROMISE. ENGAGEMENT: as a WILL, less 30",
                EIGHT_SAYINGS, "of 1 8 = 80", "of 3 8 = 40", "of 4 8 = 10",
                atTheList(1, 80, 1, 80), atTheList(1, 81, 0, 42), atTheList(3, 40, 1, 40),
                atTheList(3, 41, 0, 22), atTheList(4, 10, 1, 10), atTheList(4, 11, 0, 7));
        edge(TERMS, "SERMON, PLAIN: as a SAYING. LAW: 20", EIGHT_SAYINGS, "of 2 8 = 99",
                "of 5 8 = 99", "of 6 8 = 20", atTheList(2, 99, 1, 99), atTheList(5, 99, 1, 99),
                atTheList(6, 20, 1, 20), atTheList(6, 21, 0, 11));
    }

    /** Of the eight sayings one's number is its kind; the list finishes it, so vague, on DAY 0. */
    private static String[] atTheList(int kind, int vague, int finished, int vagueThen) {
        return new String[] {"change " + kind + " 2 " + vague, "list 0 " + kind,
            "ahead " + kind + " 3 1 = " + finished, "ahead " + kind + " 2 1 = " + vagueThen};
    }

    private static void thickness() {
        edge(TERMS, "what all SAYINGS that aren't FINISHED THICKEN together there",
                "say 'saying 50 at 5;saying 50 at 6;saying 50 at 5 finished' = 3", "thick 5 = 90",
                "thick 6 = 90", "thick 4 = 70", "thick 3 = 30");
        edge(TERMS, "each, as far as it REACHES, so much less for each CELL that it is off",
                "say 'saying 50 at 5' = 1", "thick 2 = 0", "thick 3 = 30", "thick 4 = 40",
                "thick 6 = 40", "thick 7 = 30", "thick 8 = 0");
        edge(TERMS, "a PLAIN one a tenth (cut towards 0) of what it THICKENS",
                "say 'plain 0 at 7;engagement 50 at 7' = 2", "thick 7 = 110", "thick 6 = 85",
                "thick 9 = 60", "thick 10 = 35", "thick 11 = 28", "thick 12 = 0");
        edge(TERMS, "any other one a fifth (cut); 0 at least in all",
                "say 'saying 4 at 2;saying 5 at 8;saying 9 at 13' = 3", "thick 2 = 4", "thick 3 = 4",
                "thick 4 = 4", "thick 8 = 5", "thick 9 = 4", "thick 10 = 3", "thick 13 = 9",
                "thick 14 = 8", "thick 15 = 7", "saying 5 0 2 = 3", "thick 2 = 0", "thick 0 = 0",
                "thick 3 = 0");
    }

    private static void whatShipsHave() {
        edge(TERMS, "SHIPS 0, 1, .. (at most 6)", times(5, "ship 0 1"), "ship 0 1 = 5",
                "ship 0 1 = FULL", "count 2 = 6", "ofShip 5 0 = 0", "ofShip 6 0 = BEYOND");
        edge(TERMS, "SEES (how THICK it may be to go on; 0 to 99; 30 at first)",
                "say 'saying 30;saying 31 at 7' = 2", "ship 0 1 = 0", "ship 7 1 = 1", "ofShip 0 1 = 30",
                "now 7 = 1", "steer 0 1 100 = BEYOND", "steer 0 1 -1 = BEYOND", "steer 0 1 99 = 30",
                "steer 0 1 0 = 99", "now 7 = 0");
        edge(TERMS, "FAST (CELLS in a DAY; 1 to 5; 2 at first)", "say 'ship;ship fast 1;ship fast 5' = 3",
                "ofShip 0 2 = 2", "go 1 = 0", "ofShip 0 0 = 2", "ofShip 1 0 = 1", "ofShip 2 0 = 5",
                "steer 0 2 0 = BEYOND", "steer 0 2 6 = BEYOND", "steer 0 2 5 = 2", "steer 0 2 1 = 5");
        edge(TERMS, "WAITED (DAYS; 0 to 9999; 0 at first)", "ship 3 1 = 0", "ofShip 0 3 = 0",
                "steer 0 3 10000 = BEYOND", "steer 0 3 -1 = BEYOND", "steer 0 3 9999 = 0",
                "steer 0 3 0 = 9999");
    }

    // ---- Terms 2: a day, the draws

    private static void aDay() {
        edge(TERMS, "SHIPS by numbers that aren't AT 15", "say 'saying 99 at 15;ship at 15 sees 0' = 2",
                "go 5 = 1", "ofShip 0 3 = 0", "ofShip 0 0 = 15");
        edge(TERMS, "one that SEES as much as it is THICK where it is, or more",
                "say 'saying 50 at 3;ship at 3 sees 49;ship at 3 sees 50;ship at 3 sees 51' = 4",
                "now 7 = 6", "go 1 = 0", "ofShip 0 0 = 3", "ofShip 1 0 = 5", "ofShip 2 0 = 5",
                "ofShip 0 3 = 1", "ofShip 1 3 = 0");
        edge(TERMS, "goes on as many CELLS as it is FAST, no farther than 15",
                "say 'ship at 14 fast 5;ship at 10 fast 5;ship at 9 fast 5;ship at 14 fast 1' = 4",
                "go 1 = 11", "ofShip 0 0 = 15", "ofShip 1 0 = 15", "ofShip 2 0 = 14", "go 1 = 15",
                "ofShip 2 0 = 15");
        edge(TERMS, "else WAITED is 1 more (9999 at most)", "say 'saying 99;ship sees 0' = 2",
                "steer 0 3 9997 = 0", "go 1 = 0", "ofShip 0 3 = 9998", "go 1 = 0", "ofShip 0 3 = 9999",
                "go 1 = 0", "ofShip 0 3 = 9999", "go 60 = 0", "ofShip 0 3 = 9999");
        edge(TERMS, "(2) The SAYING of THE LIST for DAY modulo 6, if there is one that isn't FINISHED",
                "say 'law 99 finished;law 99 at 9;finish 0 0;finish 1 2;finish 2 7;finish 3 8' = 6",
                "go 1 = 0", "of 0 2 = 99", "of 0 3 = 1", "go 3 = 0", "of 1 3 = 0", "of 1 2 = 99",
                "list 0 1 = 0", "go 2 = 0", "of 1 2 = 99", "go 1 = 0", "of 1 2 = 58");
        edge(TERMS, "is finished, if it is no more VAGUE than it RESISTS, else half as VAGUE (cut)",
                "say 'law 20;law 21;law 23;finish 0 0' = 4", "image = 1", "go 1 = 0", "of 0 3 = 1",
                "of 0 2 = 20", "undo = 0", "list 0 1 = 0", "go 1 = 0", "of 1 3 = 0", "of 1 2 = 11",
                "undo = 0", "list 0 2 = 0", "go 1 = 0", "of 2 3 = 0", "of 2 2 = 12");
        edge(TERMS, "SAYINGS by numbers that aren't FINISHED: VAGUE is what it BLURS more (held within"
                + " 0 to 99)", "say 'saying 98;promise 98;sermon 1;sermon 99;saying 98 finished' = 5",
                "go 1 = 0", "of 0 2 = 99", "of 1 2 = 99", "of 2 2 = 0", "of 3 2 = 98", "of 4 2 = 98",
                "go 1 = 0", "of 0 2 = 99", "of 1 2 = 99", "of 2 2 = 0", "go 4 = 0", "of 3 2 = 93",
                "go 1 = 0", "of 3 2 = 99", "of 2 2 = 7");
        edge(TERMS, "SAID 1 more (9999 at most)", "say 'saying 5 said 9997;saying 5 said 3 finished' = 2",
                "go 1 = 0", "of 0 4 = 9998", "of 1 4 = 3", "go 1 = 0", "of 0 4 = 9999", "go 1 = 0",
                "of 0 4 = 9999", "go 60 = 0", "of 0 4 = 9999");
        // An engagement blurs by 5 on odd days, by 2 on even ones: DAY stays 99999.
        run(TERMS, "DAY is one more (99999 at most)", true, times(1666, "go 60"), "go 38 = 0",
                "now 0 = 99998", "go 1 = 0", "now 0 = 99999", "saying 4 0 0 = 0", "ahead 0 2 4 = 20");
        edge(TERMS, "A DAY goes by: (1)", "say 'saying 31;ship;finish 0 0' = 3", "go 1 = 0",
                "ofShip 0 3 = 1", "of 0 3 = 1", "of 0 2 = 31", "of 0 4 = 0");
    }

    private static void theDraws() {
        List<String> rows = new ArrayList<>();
        rows.add("count 6 = 1");
        int last = 1;
        for (int seed : new int[] {1, 0, -1, Integer.MAX_VALUE, Integer.MIN_VALUE, 77}) {
            int first = (int) (seed * 1103515245L + 12345);
            int second = (int) (first * 1103515245L + 12345);
            rows.add("seed " + seed + " = " + last);
            rows.add("image = 1");
            rows.add("committee 1 = 0");
            rows.add("count 6 = " + second);
            rows.add("listed 0 = " + (first & 0xffffffffL) / 256 % 9);
            rows.add("undo = 0");
            last = seed;
        }
        edge(TERMS, "z is told (1 at first); each makes it z * 1103515245 + 12345 (an int), and gives"
                + " z >>> 8", (Object) rows.toArray(new String[0]));
    }

    // ---- Terms 3: texts, spots, sheets

    private static String blanks(int n) {
        return " ".repeat(n);
    }

    private static void tokens() {
        edge(TERMS, "THE TAPE (bytes, at most 120)", "tape '" + blanks(116) + "' = 116", "feed 0 4 = 120",
                "feed 0 1 = FULL", "text = -117", "say '" + blanks(115) + "law 1' = 1",
                "say 'law 1" + blanks(115) + "' = 1", "say '" + blanks(117) + "law' = -121",
                "count 1 = 2");
        edge(TERMS, "TOKENS, each as long as can be", "say 'law1at2said3finished;ship' = 2",
                "say 'lawat 1' = -1", "say 'finish 12 ' = -8", "say 'finish 11' = -8",
                "say 'finish 1 1' = 1", "say 'law 1 finish' = -7", "say 'finishe 0 0' = -1");
        edge(TERMS, "WORDS (letters a to z), NUMBERS (digits, 9999 at most), SIGN ;",
                "say 'Law 1' = -1", "say '`law 1' = -1", "say '{law 1' = -1", "say 'law{ 1' = -4",
                "say 'law 1/' = -6", "say 'law 1:' = -6", "say 'law 1,law 1' = -6",
                "say 'law 1 said 9999' = 1", "say 'law 1 said 10000' = -12",
                "say 'law 1 said 00009999' = 1", "say 'law 99999999999999999999' = -5",
                "say 'law 4294967297' = -5", "say 'law 1;law 1' = 2", "say 'plain 0;zlaw 1' = -9");
        edge(TERMS, "blanks may stand between", "say 'law 1;ship' = 2", "say '  law  1  ;  ship  ' = 2",
                "say 'la w 1' = -1", "say 'law 1 said 1 1' = -14");
        edge(TERMS, "TEXT: ITEM { ; ITEM }", "say '' = -1", "say '   ' = -4", "say ';' = -1",
                "say 'ship;' = -6", "say 'ship;;ship' = -6", "say ';ship' = -1", "say 'ship ship' = -6",
                "count 2 = 0", "say 'ship' = 1", "say 'ship;ship' = 2");
    }

    private static void items() {
        edge(TERMS, "a NUMBER (VAGUE, 0 to 99), perhaps at and a NUMBER (a CELL; 0 without), perhaps"
                + " said and a NUMBER (0 to 9999), perhaps finished: a new one; ship",
                "say 'law 0' = 1", "say 'law 99 at 15 said 9999 finished' = 1", "say 'law 100' = -5",
                "say 'law' = -4", "say 'law at 1' = -5", "say 'law 1 at' = -9", "say 'law 1 at 16' = -10",
                "say 'law 1 said' = -11", "say 'law 1 said 10000' = -12", "say 'law 1 said 1 at 1' = -14",
                "say 'law 1 finished at 1' = -16", "say 'law 1 finished finished' = -16",
                "say 'law 1 at 0 said 0' = 1", "count 1 = 3", "of 0 1 = 0", "of 0 4 = 0", "of 0 3 = 0",
                "of 1 2 = 99", "of 1 1 = 15", "of 1 4 = 9999", "of 1 3 = 1");
        edge(TERMS, "perhaps at and a NUMBER (a CELL; 0 without), perhaps sees and a NUMBER (0 to 99),"
                + " perhaps fast and a NUMBER (1 to 5)",
                "say 'ship' = 1", "say 'ship at 15 sees 99 fast 5' = 1", "say 'ship at 0 sees 0 fast 1' = 1",
                "say 'ship at 16' = -9", "say 'ship at' = -8", "say 'ship sees 100' = -11",
                "say 'ship sees' = -10", "say 'ship fast 0' = -11", "say 'ship fast 6' = -11",
                "say 'ship fast' = -10", "say 'ship fast 1 sees 1' = -13", "say 'ship sees 1 at 1' = -13",
                "say 'ship 1' = -6", "count 2 = 3", "ofShip 0 0 = 0", "ofShip 0 1 = 30",
                "ofShip 0 2 = 2", "ofShip 1 0 = 15", "ofShip 1 1 = 99", "ofShip 1 2 = 5",
                "ofShip 2 1 = 0", "ofShip 2 2 = 1", "ofShip 2 3 = 0");
        edge(TERMS, "finish, two NUMBERS (a place of THE LIST, 0 to 5, 0 to 8)", "say 'finish 0 0' = 1",
                "say 'finish 5 7' = 1", "say 'finish 6 0' = -8", "say 'finish 1 9' = -10",
                "say 'finish' = -7", "say 'finish 1' = -9", "say 'finish 1 1 1' = -12",
                "say 'finish x 1' = -8", "listed 0 = 0", "listed 1 = 8", "listed 5 = 7",
                "say 'finish 5 8' = 1", "listed 5 = 8");
    }

    private static void faults() {
        edge(TERMS, "the place (from 0) of the first byte of the first TOKEN that can't stand there",
                "say 'x' = -1", "say ' x' = -2", "say 'ship x;ship y' = -6", "say 'law 1 at 16 at 17' = -10");
        edge(TERMS, "a NUMBER that isn't as told, another WORD, a byte that begins no TOKEN",
                "say 'law  100' = -6", "say 'laws 1' = -1", "say 'law 1 sees 1' = -7", "say 'ship  ?' = -7",
                "say 'ship said 1' = -6", "say '\u00ff' = -1", "say 'ship\u0000' = -5",
                "say 'ship;-1' = -6", "say '1' = -1", "say 'lawz 1' = -1",
                "say 'alaw 1' = -1", "say 'zaw 1' = -1", "say 'la 1' = -1", "say 'ship;thip' = -6",
                "say 'binish 0 0' = -1", "say 'law 1 bt 1' = -7", "say 'law 1 taid 1' = -7",
                "say 'law 1 binished' = -7", "say 'ship tees 1' = -6", "say 'ship past 1' = -6",
                "say 'ship fas 1' = -6", "say 'ship fasts 1' = -6");
        edge(TERMS, "the WORD of a 9th SAYING, of a 7th SHIP: its own",
                times(7, "saying 0 0 0"), times(5, "ship 0 1"), "say 'law 1;  law 100' = -9",
                "say 'law 1;law' = -7", "say 'law 1;lawx' = -7", "say 'ship; ship at 16' = -7",
                "count 1 = 7", "count 2 = 5", "say 'law 1;ship' = 2", "say 'law 1' = -1",
                "say 'ship' = -1", "say 'finish 0 7' = 1", "count 1 = 8", "count 2 = 6");
        edge(TERMS, "or how many bytes there are if it ends too early", "say '' = -1", "say ' ' = -2",
                "say 'law' = -4", "say 'law   ' = -7", "say 'law 1 at' = -9", "say 'law 1;' = -7",
                "say 'law 1; ' = -8", "say 'finish 1' = -9", "say 'finish' = -7");
    }

    private static void spotsAndSheetsAtFirst() {
        edge(TERMS, "SPOTS 0 to 9 hold a SAYING or nothing (at first)", "saying 0 1 1 = 0",
                "as 0 0 = MISSING", "as 9 0 = MISSING", "as -1 0 = BEYOND", "as 10 0 = BEYOND",
                "count 7 = 0", "hold 0 0 = 1", "hold 9 0 = 1", "count 7 = 2", "as 9 0 = 0",
                "hold 9 -1 = 1", "as 9 0 = MISSING", "count 7 = 1");
        edge(TERMS, "SHEETS 0 to 3: rows of at most 40 numbers of 8, 16 or 32 bits, or MISSING (at first)",
                "judge 0 = MISSING", "judge 1 = MISSING", "judge 2 = MISSING", "judge 3 = MISSING",
                "judge 4 = BEYOND", "judge -1 = BEYOND", "sheet 0 8 40 = 40", "sheet 3 16 40 = 40",
                "sheet 2 32 40 = 40", "sheet 1 8 41 = BEYOND", "write 0 39 1 = 1",
                "write 0 40 1 = BEYOND", "judge 1 = MISSING");
    }

    // ---- Promises 1 to 10: estuary

    private static void aNewObject() {
        edge(1, "All as at first; no SAYINGS, no SHIPS", "status -1 = 0", "count 0 = 0", "count 1 = 0",
                "count 2 = 0", "count 6 = 1", "count 7 = 0", "listed 0 = 8", "listed 5 = 8", "now 3 = 0",
                "now 6 = 65535", "of 0 0 = BEYOND", "ofShip 0 0 = BEYOND", "as 0 0 = MISSING",
                "load 3 = MISSING", "status -1 = 4");
        edge(1, "THE TAPE is empty", "count 5 = 0", "wipe = 0", "text = -1");
        edge(1, "no image is kept", "undo = NONE", "tear = 0", "image = 1", "undo = 0");
    }

    private static void list() {
        edge(2, "in place i (0 to 5)", "list 0 1 = 8", "list 5 2 = 8", "listed 0 = 1", "listed 5 = 2",
                "list -1 3 = BEYOND", "list 6 3 = BEYOND");
        edge(2, "a SAYING (0 to 7; 8: none): which it was", "list 3 0 = 8", "list 3 7 = 0",
                "list 3 8 = 7", "list 3 8 = 8", "list 3 9 = BEYOND", "list 3 -1 = BEYOND",
                "listed 3 = 8");
        edge(2, "BEYOND", outside("list 0 0", 0, 5, 0, 8), "listed 0 = 8");
        edge(3, "BEYOND", "list 0 3 = 8", "list 5 4 = 8", outside("listed 0", 0, 5), "listed 0 = 3",
                "listed 5 = 4");
    }

    private static void newOnes() {
        edge(4, "BEYOND", outside("saying 0 0 0", 0, 6, 0, 99, 0, 15), "saying 0 0 0 = 0",
                "saying 6 99 15 = 1", "of 1 0 = 6", "of 1 1 = 15", "of 1 2 = 99", "of 1 3 = 0",
                "of 1 4 = 0");
        edge(4, "FULL", times(8, "saying 6 99 15"), "saying 0 0 0 = FULL", "saying 7 0 0 = BEYOND",
                "undo = NONE", "saying 0 0 0 = FULL", "status 1 = 2");
        edge(5, "BEYOND", outside("ship 0 1", 0, 15, 1, 5), "ship 0 1 = 0", "ship 15 5 = 1",
                "ofShip 1 0 = 15", "ofShip 1 2 = 5", "ofShip 1 1 = 30", "ofShip 1 3 = 0");
        edge(5, "FULL", times(6, "ship 15 5"), "ship 0 1 = FULL", "ship 0 0 = BEYOND",
                "ship 16 1 = BEYOND", "status 1 = 1");
    }

    private static void whatTheyHave() {
        edge(6, "BEYOND", "of 0 0 = BEYOND", "saying 4 7 9 = 0", "saying 0 0 0 = 1",
                outside("of 0 0", 0, 1, 0, 8), "of 0 0 = 4", "of 0 8 = 10");
        List<String> rows = new ArrayList<>(Arrays.asList("change 0 0 0 = BEYOND", "saying 4 7 9 = 0"));
        int[] was = {4, 9, 7, 0, 0};
        int[] most = {6, 15, 99, 1, 9999};
        for (int what = 0; what < 5; what++) {
            rows.add("change 0 " + what + " " + most[what] + " = " + was[what]);
            rows.addAll(Arrays.asList(outside("change 0 " + what + " 0", 0, 0, what, what, 0,
                    most[what])).subList(8, 12));
            rows.add("of 0 " + what + " = " + most[what]);
            rows.add("change 0 " + what + " 0 = " + most[what]);
        }
        edge(7, "BEYOND", rows.toArray(new String[0]), outside("change 0 0 0", 0, 0, 0, 4));
        edge(8, "BEYOND", "ofShip 0 0 = BEYOND", "ship 3 4 = 0", "ship 4 4 = 1",
                outside("ofShip 0 0", 0, 1, 0, 3), "ofShip 1 0 = 4", "ofShip 1 3 = 0");
        rows = new ArrayList<>(Arrays.asList("steer 0 0 0 = BEYOND", "ship 3 4 = 0"));
        was = new int[] {3, 30, 4, 0};
        int[] least = {0, 0, 1, 0};
        most = new int[] {15, 99, 5, 9999};
        for (int what = 0; what < 4; what++) {
            rows.add("steer 0 " + what + " " + most[what] + " = " + was[what]);
            rows.addAll(Arrays.asList(outside("steer 0 " + what + " 1", 0, 0, what, what, least[what],
                    most[what])).subList(8, 12));
            rows.add("ofShip 0 " + what + " = " + most[what]);
            rows.add("steer 0 " + what + " " + least[what] + " = " + most[what]);
        }
        edge(9, "BEYOND", rows.toArray(new String[0]), outside("steer 0 0 1", 0, 0, 0, 3));
        edge(10, "BEYOND", "say 'saying 7;saying 8 at 15' = 2", outside("thick 0", 0, 15),
                "thick 0 = 7", "thick 15 = 8");
    }

    // ---- Promises 11 and 12: days

    private static void days() {
        edge(11, "n DAYS (1 to 60)", "say 'ship fast 1;saying 0 at 9' = 2", "go 1 = 0", "now 0 = 1",
                "ofShip 0 0 = 1", "go 60 = 1", "now 0 = 61", "of 0 2 = 61", "of 0 4 = 61");
        edge(11, "BEYOND", "ship 0 1 = 0", outside("go 1", 1, 60), "now 0 = 0", "ofShip 0 0 = 0");
        run(11, "STATE: DAY would be above 99999", true, "ship 14 1 = 0", times(1666, "go 60"),
                "go 61 = BEYOND", "go 40 = STATE", "now 0 = 99960", "go 39 = 1", "now 0 = 99999",
                "go 1 = STATE", "go 60 = STATE");
    }

    private static void now() {
        edge(12, "5 the CELL where it is thickest", "now 5 = 0", "saying 0 9 15 = 0", "now 5 = 15",
                "saying 0 9 5 = 1", "now 5 = 5", "change 0 2 10 = 9", "now 5 = 15", "change 0 2 0 = 10",
                "change 1 2 3 = 9", "now 5 = 3",
                // A plain one thins 12 to 15 more than it could what lies beyond: there is no cell 16.
                "saying 5 0 12 = 2", "change 1 3 1 = 0", times(5, "saying 0 8 15"), "now 5 = 15",
                "thick 15 = 19");
        edge(12, "6 CELLS where it isn't THICK at all (0), as a set", "now 6 = 65535",
                "say 'saying 1 at 2;saying 30 at 12;plain 0 at 12' = 3", "now 6 = 65504",
                "change 1 2 31 = 30", "now 6 = 61408");
        edge(12, "2 SAYINGS that are FINISHED, as a set, 3 VAGUE of all that aren't FINISHED together",
                EIGHT_SAYINGS, "now 2 = 0", "now 3 = 28", "change 7 3 1 = 0", "now 2 = 128",
                "now 3 = 21", "change 0 2 99 = 0", "now 3 = 120", "change 0 3 1 = 0", "now 2 = 129",
                "now 3 = 21");
        edge(12, "7 SHIPS that would go on now, as a set", SIX_SHIPS, "now 7 = 63", "steer 5 0 15 = 0",
                "now 7 = 31", "saying 0 31 0 = 0", "now 7 = 0", "steer 4 1 31 = 30", "now 7 = 16");
        edge(12, "BEYOND", outside("now 0", 0, 7), "now 0 = 0", "now 7 = 0");
    }

    // ---- Promises 13 to 18: what will be

    private static void whatWillBe() {
        edge(13, "What 2, 3, 4, 5 (as in of()) of a SAYING", "saying 1 0 0 = 0",
                "ahead 0 1 0 = BEYOND", "ahead 0 2 0 = 0", "ahead 0 3 0 = 0",
                "ahead 0 4 0 = 0", "ahead 0 5 0 = 0", "ahead 0 6 0 = BEYOND");
        edge(13, "behind n (0 to 100) DAYS", "say 'promise 3;plain 7 said 9' = 2", "ahead 0 2 0 = 3",
                "ahead 0 2 1 = 5", "ahead 0 2 48 = 99", "ahead 0 2 47 = 97", "ahead 0 2 100 = 99",
                "ahead 0 4 100 = 100", "ahead 0 5 100 = 109", "ahead 0 5 99 = 108",
                "ahead 1 4 100 = 109", "ahead 0 2 101 = BEYOND", "ahead 0 2 -1 = BEYOND", "now 0 = 0");
        edge(13, "BEYOND", "ahead 0 2 0 = BEYOND", "saying 0 5 5 = 0",
                outside("ahead 0 2 0", 0, 0, 2, 5, 0, 100));
        edge(14, "What 0, 3 (as in ofShip()) of a SHIP", "ship 3 1 = 0", "later 0 0 0 = 3",
                "later 0 3 0 = 0", "later 0 1 0 = BEYOND", "later 0 2 0 = BEYOND");
        edge(14, "behind n (0 to 100) DAYS", "say 'saying 99;ship;ship at 3 fast 1' = 3",
                "later 0 0 0 = 0", "later 0 3 100 = 100", "later 0 3 99 = 99", "later 1 0 0 = 3",
                "later 1 0 11 = 14", "later 1 0 12 = 15", "later 1 0 100 = 15", "later 1 3 100 = 0",
                "later 0 3 101 = BEYOND", "later 0 3 -1 = BEYOND", "ofShip 0 3 = 0");
        edge(14, "BEYOND", "later 0 0 0 = BEYOND", "ship 3 1 = 0",
                outside("later 0 0 0", 0, 0, 0, 3, 0, 100));
        edge(15, "behind n (0 to 100) DAYS", "say 'promise 99' = 1", "fog 0 0 = 99", "fog 0 9 = 99",
                "fog 0 10 = 100", "fog 0 99 = 108", "fog 0 100 = 109", "fog 15 100 = 0",
                "fog 0 101 = BEYOND", "fog 0 -1 = BEYOND", "thick 0 = 99");
        edge(15, "BEYOND", (Object) outside("fog 0 0", 0, 15, 0, 100));
    }

    private static void whenItWillBe() {
        edge(16, "Behind how many DAYS (0 to 200, the fewest) a SHIP is in port",
                "say 'engagement 99 at 7;sermon 99 at 13;engagement 46 at 7;finish 3 2;finish 5 2' = 5",
                "say 'ship at 12 sees 37 fast 2;ship at 15 sees 0' = 2", "lands 1 = 0", "go 23 = 2",
                "lands 0 = NONE", "go 1 = 2", "lands 0 = 200", "go 1 = 2", "lands 0 = 199", "go 60",
                "go 60", "go 60", "lands 0 = 19", "go 18 = 2", "lands 0 = 1", "go 1 = 3", "lands 0 = 0");
        edge(16, "BEYOND", "lands 0 = BEYOND", "ship 15 1 = 0", outside("lands 0", 0, 0), "lands 0 = 0");
        edge(16, "NONE", "say 'saying 31;ship;ship at 5' = 3", "lands 0 = NONE", "lands 1 = 5",
                "list 5 0 = 8", "lands 0 = 14");
        edge(17, "Behind how many DAYS (0 to 200, the fewest) it is v (0 to 999) THICK or more at a CELL",
                "say 'promise 99;will 99 at 9 said 9999' = 2", "closes 0 0 = 0", "closes 0 99 = 0",
                "closes 0 100 = 10", "closes 0 118 = 190", "closes 0 119 = 200", "closes 0 120 = NONE",
                "change 0 4 1 = 0", "closes 0 119 = 199", "change 0 4 9 = 1", "closes 0 120 = NONE",
                "change 0 4 10 = 9", "closes 0 120 = 200", "closes 9 999 = 0", "closes 5 0 = 0",
                "closes 0 1000 = BEYOND", "closes 9 1000 = BEYOND", "closes 0 -1 = BEYOND");
        edge(17, "BEYOND", (Object) outside("closes 0 0", 0, 15, 0, 999));
        edge(17, "NONE", "closes 0 1 = NONE", "closes 15 999 = NONE", "saying 5 0 3 = 0",
                "closes 3 1 = NONE", "closes 3 0 = 0");
        // By the list a saying is finished within 84 days or never: 200 can't be come near to.
        edge(18, "Behind how many DAYS (0 to 200, the fewest) all SAYINGS are FINISHED",
                "settled = 0", "say 'saying 9;saying 9;saying 9 finished;finish 5 0;finish 0 1' = 5",
                "settled = 6", "change 0 3 1 = 0", "settled = 1", "change 1 3 1 = 0", "settled = 0",
                "say 'law 99;finish 3 3' = 2", "settled = 70", "go 7 = 0", "say 'law 87;finish 0 4' = 2",
                "settled = 84", "go 60 = 0", "settled = 24", "go 23 = 0", "settled = 1", "go 1 = 0",
                "settled = 0");
        edge(18, "NONE", "saying 0 9 9 = 0", "settled = NONE", "list 0 1 = 8", "settled = NONE",
                "list 5 0 = 8", "settled = 6");
    }

    // ---- Promises 19 to 23: what to finish

    private static void whatToFinish() {
        // Of several that do as well the least; a ship in the fog of 7 alone needs the last of them.
        edge(19, "The SAYING (0 to 7; 8 comes last)", "finishFor 0 0 = 0", times(7, "saying 0 0 0"),
                "saying 0 99 7 = 7", "finishFor 0 9 = 0", "ship 7 1 = 0", "finishFor 0 9 = 7",
                "finishFor 5 9 = 7", "finishFor 5 6 = 0", "finishFor 5 7 = 7", "change 7 3 1 = 0",
                "finishFor 0 9 = 0");
        // Whatever place 0 told, it would be worse: each plain one helps ship 1 past 7 on DAY 1, and
        // half as vague the engagement is thicker five off, where ship 0 is then.
        edge(19, "place i of THE LIST must tell",
                "say 'plain 0 at 6;plain 0 at 9;engagement 84 at 7;plain 0 at 6;plain 0 at 8' = 5",
                "say 'plain 0 at 8;plain 0 at 9;plain 0 at 8;ship at 0 sees 2;ship at 5 sees 44' = 5",
                "finishFor 0 2 = 8", "finishFor 1 2 = 0", "listed 0 = 8", "list 0 3 = 8",
                "finishFor 0 2 = 8");
        edge(19, "so that WAITED of all together is least behind n (0 to 40) DAYS",
                "say 'engagement 99 at 9 said 21;saying 40 at 14;ship at 14 sees 0' = 3",
                "finishFor 0 0 = 0", "finishFor 0 39 = 0", "finishFor 0 40 = 1", "finishFor 0 41 = BEYOND",
                "finishFor 0 -1 = BEYOND", "steer 0 3 9999 = 0", "finishFor 0 40 = 0",
                times(5, "ship 0 1"), "steer 1 3 9999 = 0", "steer 2 3 9999 = 0", "steer 3 3 9999 = 0",
                "steer 4 3 9999 = 0", "steer 5 3 9999 = 0", "finishFor 0 40 = 0", "kindFor 1 40 = 0");
        edge(19, "BEYOND", (Object) outside("finishFor 0 0", 0, 5, 0, 40));
        edge(20, "BEYOND", "kindFor 0 0 = BEYOND", "say 'engagement 35 at 3;ship at 3' = 2",
                outside("kindFor 0 0", 0, 0, 0, 40), "kindFor 0 0 = 0", "kindFor 0 1 = 2",
                "kindFor 0 40 = 2", "of 0 0 = 4", "change 0 2 99 = 35", "kindFor 0 40 = 5");
    }

    private static void eyesAndSpeed() {
        // Five off an engagement of 99 it is as thick as a fifth leaves; that is 0 on DAY 39 first.
        String clearOn39 = "say 'engagement 99 at 9 said 21;ship at 14 sees 0' = 2";
        edge(21, "The least SEES with which a SHIP is in port behind n (0 to 40) DAYS", clearOn39,
                "eyesFor 0 0 = NONE", "eyesFor 0 1 = 2", "eyesFor 0 19 = 2", "eyesFor 0 20 = 1",
                "eyesFor 0 39 = 1", "eyesFor 0 40 = 0", "lands 0 = 40", "eyesFor 0 41 = BEYOND",
                "eyesFor 0 -1 = BEYOND", "ofShip 0 1 = 0", "ship 15 1 = 1", "eyesFor 1 0 = 0");
        edge(21, "BEYOND", "eyesFor 0 0 = BEYOND", "ship 15 1 = 0", outside("eyesFor 0 0", 0, 0, 0, 40));
        edge(21, "NONE", "say 'promise 99 at 3 said 10;ship at 3;ship at 5 fast 1' = 3",
                "eyesFor 0 40 = NONE", "change 0 4 9 = 10", "eyesFor 0 7 = 99", "eyesFor 0 6 = 99",
                "eyesFor 0 5 = NONE", "eyesFor 1 9 = NONE", "eyesFor 1 10 = 61");
        edge(22, "The least FAST (1 to 5)", "ship 0 1 = 0", "speedFor 0 15 = 1", "speedFor 0 14 = 2",
                "speedFor 0 8 = 2", "speedFor 0 7 = 3", "speedFor 0 5 = 3", "speedFor 0 4 = 4",
                "speedFor 0 3 = 5", "speedFor 0 2 = NONE", "ship 15 5 = 1", "speedFor 1 0 = 1",
                "ofShip 1 2 = 5");
        edge(22, "in port behind n (0 to 40) DAYS", clearOn39, "speedFor 0 40 = 1", "speedFor 0 39 = NONE",
                "speedFor 0 0 = NONE", "speedFor 0 41 = BEYOND", "speedFor 0 -1 = BEYOND");
        edge(22, "BEYOND", "speedFor 0 0 = BEYOND", "ship 15 1 = 0",
                outside("speedFor 0 0", 0, 0, 0, 40));
        edge(22, "NONE", "say 'saying 31;ship;ship at 9' = 3", "speedFor 0 40 = NONE",
                "speedFor 1 1 = NONE", "speedFor 1 2 = 3");
    }

    private static void decide() {
        edge(23, "The set of fewest SAYINGS such that, if these are FINISHED, too, now",
                "say 'saying 20 at 5;saying 20 at 5;saying 40 at 5;ship at 5 sees 40' = 4", "decide 5 = 4",
                "change 2 3 1 = 0", "decide 5 = 0", "change 2 3 0 = 1", "steer 0 1 0 = 40", "decide 5 = 7",
                "change 0 3 1 = 0", "decide 5 = 6", "now 2 = 1",
                times(5, "saying 0 1 5"), "change 0 3 0 = 1", "decide 5 = 255", "change 7 2 0 = 1",
                "decide 4 = NONE", "steer 0 2 5 = 2", "decide 2 = 127");
        edge(23, "all SHIPS are in port behind n (0 to 16) DAYS", "decide 0 = 0",
                "say 'saying 31;finish 0 0;ship fast 1' = 3", "decide 16 = 0", "decide 15 = 1",
                "decide 14 = NONE", "decide 0 = NONE", "decide 17 = BEYOND", "decide -1 = BEYOND",
                "steer 0 0 15 = 0", "decide 0 = 0", "steer 0 0 14 = 15", "change 0 1 14 = 0",
                "list 0 8 = 0", "decide 1 = 1", "decide 16 = 1", "decide 0 = NONE");
        edge(23, "of several the least", "say 'saying 20;saying 20;saying 20;ship sees 40' = 4",
                "decide 16 = 1", "steer 0 1 39 = 40", "decide 16 = 3", "steer 0 1 19 = 39",
                "decide 16 = 7", "change 0 2 0 = 20", "decide 16 = 6");
        edge(23, "BEYOND", (Object) outside("decide 0", 0, 16));
        edge(23, "NONE", EIGHT_SAYINGS, "ship 13 1 = 0", "decide 1 = NONE", "decide 2 = 0",
                "ship 0 1 = 1", "decide 14 = NONE");
    }

    // ---- Promises 24 and 25: told thickness

    private static void toldThickness() {
        edge(24, "How many VAGUE (0 to 99) a SAYING could be now", "saying 0 50 5 = 0", "row 0 16: 0",
                "fits 0 0 = 1", "row 0 16: 99", "fits 0 0 = 1", "row 0 16: 100", "fits 0 0 = 0",
                "row 0 16: -1 99", "fits 0 0 = 2", "row 0 8:", "fits 0 0 = 100", "of 0 2 = 50");
        edge(24, "(-1: any; the first 8 numbers alone are asked)", "saying 0 50 5 = 0",
                "row 0 8: 50 -1 -1 -1 -1 -1 -1 57 99", "fits 0 0 = 1",
                "row 0 8: 50 -1 -1 -1 -1 -1 -1 58 58", "fits 0 0 = 0", "row 1 8: -1 -1", "fits 1 0 = 100",
                "row 1 8: -2", "fits 1 0 = 0", "row 1 8: 255 51", "fits 1 0 = 1",
                "row 1 32: 255", "fits 1 0 = 0", "row 1 8: -1 -1 -1 -1 -1 -1 -1 0", "fits 1 0 = 0",
                "row 1 8: -1 -1 -1 -1 -1 -1 -1 99", "fits 1 0 = 8");
        edge(24, "BEYOND: no such sheet", "saying 0 50 5 = 0", "fits -1 0 = BEYOND", "fits 4 0 = BEYOND",
                "fits MIN 0 = BEYOND", "fits MAX 9 = BEYOND");
        edge(24, "MISSING", "fits 0 0 = MISSING", "saying 0 50 5 = 0", "fits 0 0 = MISSING",
                "fits 3 -1 = MISSING", "sheet 0 8 1 = 1", "fits 0 0 = 1", "sheet 0 0 0 = 0",
                "fits 0 0 = MISSING");
        edge(24, "BEYOND: no such SAYING", "sheet 0 8 0 = 0", "fits 0 0 = BEYOND", "saying 0 50 5 = 0",
                "fits 0 -1 = BEYOND", "fits 0 1 = BEYOND", "fits 0 MIN = BEYOND", "fits 0 MAX = BEYOND",
                "fits 0 0 = 100");
        edge(25, "KINDS that it could be of, as a set, likewise", "say 'promise 50 at 5 said 4' = 1",
                "row 0 8:", "kinds 0 0 = 127", "row 0 16: 50", "kinds 0 0 = 3", "row 0 16: 50 51",
                "kinds 0 0 = 1", "row 0 16: -1 52", "kinds 0 0 = 2", "row 0 16: 0", "kinds 0 0 = 32",
                "row 0 16: 100", "kinds 0 0 = 8", "row 0 16: -1 -1 -1 -1 -1 -1 -1 65 7",
                "kinds 0 0 = 2", "row 0 16: -1 -1 -1 -1 -1 -1 -1 999", "kinds 0 0 = 0", "of 0 0 = 1");
        edge(25, "BEYOND: no such sheet", "saying 0 50 5 = 0", "kinds -1 0 = BEYOND",
                "kinds 4 0 = BEYOND", "kinds MIN 0 = BEYOND", "kinds MAX 9 = BEYOND");
        edge(25, "MISSING", "kinds 0 0 = MISSING", "saying 0 50 5 = 0", "kinds 3 0 = MISSING",
                "kinds 0 -1 = MISSING", "sheet 0 8 0 = 0", "kinds 0 0 = 127", "sheet 0 0 0 = 0",
                "kinds 0 0 = MISSING");
        edge(25, "BEYOND: no such SAYING", "sheet 0 8 0 = 0", "kinds 0 0 = BEYOND", "saying 0 50 5 = 0",
                "kinds 0 -1 = BEYOND", "kinds 0 1 = BEYOND", "kinds 0 MIN = BEYOND",
                "kinds 0 MAX = BEYOND");
    }

    // ---- Promises 26 to 28: committees

    /** The least z of whose next two draws the rests by 9 and by 8 are as told. */
    private static int seedFor(int first, int second) {
        for (int seed = 1; ; seed++) {
            int z = seed * 1103515245 + 12345;
            int y = z * 1103515245 + 12345;
            if ((z >>> 8) % 9 == first && (y >>> 8) % 8 == second) {
                return seed;
            }
        }
    }

    private static void committees() {
        edge(26, "n times (1 to 20) two draws", "ship 0 1 = 0", "committee 1 = 0", "now 0 = 1",
                "ofShip 0 0 = 1", "committee 20 = 1", "now 0 = 21", "committee 0 = BEYOND",
                "committee 21 = BEYOND", "now 0 = 21");
        edge(26, "THE LIST tells for this DAY the first one's rest by 9", "seed " + seedFor(8, 7),
                "list 0 3 = 8", "committee 1 = 0", "listed 0 = 8", "seed " + seedFor(0, 7),
                "committee 1 = 0", "listed 1 = 0", "listed 0 = 8", "go 4 = 0", "seed " + seedFor(7, 7),
                "committee 1 = 0", "listed 0 = 7", "listed 1 = 0", "saying 0 50 0 = 0",
                "seed " + seedFor(0, 5), "list 1 8 = 0", "committee 1 = 0", "listed 1 = 0", "of 0 3 = 1");
        edge(26, "VAGUE of the SAYING of the second one's rest by 8, if there is one, is 5 more (99 at"
                + " most)", "saying 5 93 0 = 0", "seed " + seedFor(8, 0), "committee 1 = 0", "of 0 2 = 98",
                "seed " + seedFor(8, 0), "committee 1 = 0", "of 0 2 = 99", "seed " + seedFor(8, 0),
                "committee 1 = 0", "of 0 2 = 99", "change 0 2 94 = 99", "seed " + seedFor(8, 7),
                "committee 1 = 0", "of 0 2 = 94", "seed " + seedFor(8, 0), "committee 1 = 0",
                "of 0 2 = 99", times(7, "saying 5 0 0"), "seed " + seedFor(8, 7), "committee 1 = 0",
                "of 7 2 = 5", "of 6 2 = 0");
        edge(26, "BEYOND", "saying 0 5 5 = 0", outside("committee 1", 1, 20), "count 6 = 1");
        run(26, "STATE: DAY would be above 99999", true, "ship 14 1 = 0", times(1666, "go 60"),
                "go 20 = 1", "committee 21 = BEYOND", "committee 20 = STATE", "count 6 = 1",
                "committee 19 = 1", "now 0 = 99999", "committee 1 = STATE");
    }

    private static void odds() {
        edge(27, "The odds that at n (0 to 15) CELLS, each the rest by 16 of a draw", "ship 3 1 = 0",
                "odds 0 0 0 = 1", "odds 0 0 1 = 1", "odds 0 1 0 = 15", "odds 0 1 1 = 16",
                "odds 0 15 0 = 437893890380859375", "odds 0 15 1 = 1152921504606846976",
                "odds 0 16 0 = BEYOND", "odds 0 16 1 = BEYOND", "odds 0 -1 0 = BEYOND");
        edge(27, "(AT 15 it doesn't)", "ship 15 1 = 0", "odds 0 1 0 = 15", "odds 0 1 1 = 16",
                "saying 0 99 15 = 0", "odds 0 1 0 = 13", "steer 0 1 99 = 30", "odds 0 1 0 = 15");
        edge(27, "a fraction in lowest terms", "say 'saying 50 at 7;ship sees 0;ship sees 49' = 3",
                "odds 0 1 0 = 5", "odds 0 1 1 = 8", "odds 0 15 0 = 30517578125",
                "odds 0 15 1 = 35184372088832", "odds 1 1 0 = 7", "odds 1 1 1 = 8",
                "say 'engagement 0 at 3;engagement 0 at 13;engagement 1 at 3' = 3", "saying 4 1 8 = 4",
                "odds 0 0 0 = 1", "odds 0 0 1 = 1", "odds 0 1 0 = 0", "odds 0 1 1 = 1", "odds 0 15 0 = 0",
                "odds 0 15 1 = 1");
        edge(27, "BEYOND", "odds 0 0 0 = BEYOND", "ship 3 1 = 0",
                outside("odds 0 0 0", 0, 0, 0, 15, 0, 1));
        edge(28, "z becomes v: what it was", "seed MIN = 1", "seed MAX = MIN", "seed -1000001 = MAX",
                "seed -1000007 = -1000001", "seed 0 = -1000007", "count 6 = 0", "status -1 = 0");
    }

    // ---- Promises 29 to 31: texts

    private static void theTape() {
        int law1 = 'l' << 24 | 'a' << 16 | 'w' << 8 | '1';
        edge(29, "the n lowest bytes of a number behind it, the highest of these first (n 1 to 4)",
                "feed " + law1 + " 4 = 4", "text = 1", "of 0 2 = 1", "feed " + ('x' << 24 | law1 >>> 8)
                + " 3 = 3", "feed " + law1 + " 1 = 4", "text = 1", "feed " + (law1 >>> 16) + " 2 = 2",
                "feed " + law1 + " 2 = 4", "text = 1", "count 1 = 3", "feed -1 4 = 4", "feed MIN 1 = 5",
                "feed 0 0 = BEYOND", "feed 0 5 = BEYOND", "text = -1");
        edge(29, "BEYOND: n", "feed 1 -1 = BEYOND", "feed 1 0 = BEYOND", "feed 1 5 = BEYOND", "feed 1 MIN = BEYOND",
                "feed 1 MAX = BEYOND", times(30, "feed 0 4"), "feed 1 5 = BEYOND", "feed 1 0 = BEYOND");
        edge(29, "FULL", "tape 'law 1" + blanks(112) + "' = 117", "feed 0 4 = FULL", "count 5 = 117",
                "feed 8224 2 = 119", "feed 0 2 = FULL", "feed 32 1 = 120", "feed 0 1 = FULL",
                "feed 0 4 = FULL", "text = 1", "feed 0 4 = 4");
        edge(30, "THE TAPE is empty: how many it had", "wipe = 0", times(30, "feed 0 4"), "wipe = 120",
                "count 5 = 0", "wipe = 0", "feed 0 1 = 1", "wipe = 1", "text = -1");
        edge(31, "THE TAPE is a TEXT, and empty then", "tape 'law 1' = 5", "text = 1", "count 5 = 0",
                "text = -1", "count 1 = 1");
        edge(31, "all that it tells is so, item by item: how many ITEMS",
                "say 'finish 0 1;finish 0 2;finish 0 3' = 3", "listed 0 = 3",
                "say '" + "ship;".repeat(5) + "finish 0 0;finish 0 1;finish 0 2;finish 0 4' = 9",
                "listed 0 = 4", "count 2 = 5");
        edge(31, "-1 less the FAULT (nothing changes but that THE TAPE is empty; no finding)",
                "say 'law 1;ship;finish 0 0;x' = -23", "count 5 = 0", "count 1 = 0", "count 2 = 0",
                "listed 0 = 8", "text = -1", "say 'law 1 finished;law' = -19", "count 1 = 0",
                "status -1 = 0", "say '" + blanks(120) + "' = -121", "status -1 = 0");
    }

    // ---- Promises 32 to 38: spots, sheets

    private static void spots() {
        edge(32, "A SPOT holds a SAYING, or nothing (-1): 1", EIGHT_SAYINGS, "hold 0 0 = 1",
                "hold 9 7 = 1", "count 7 = 2", "as 0 0 = 0", "as 9 0 = 7", "hold 9 -1 = 1",
                "hold 9 -1 = 1", "as 9 0 = MISSING", "count 7 = 1", "hold 0 7 = 1", "as 0 6 = 7",
                "count 7 = 1");
        edge(32, "BEYOND", "hold 0 0 = BEYOND", "hold 0 -1 = 1", "saying 3 4 5 = 0",
                outside("hold 0 0", 0, 9, -1, 0), "hold 10 -1 = BEYOND", "count 7 = 0");
        edge(33, "What a SPOT holds as one of a kind (0 to 6): the number of the SAYING",
                "say 'law 1;engagement 2;law 3' = 3", "hold 0 1 = 1", "hold 9 2 = 1", "as 0 0 = 1",
                "as 9 6 = 2", "as 9 7 = BEYOND", "as 9 -1 = BEYOND");
        edge(33, "BEYOND", "saying 0 0 0 = 0", "hold 0 0 = 1", outside("as 0 0", 0, 9, 0, 6),
                "as 10 7 = BEYOND");
        edge(33, "MISSING: it holds nothing", "as 0 0 = MISSING", "as 9 6 = MISSING", "saying 6 0 0 = 0",
                "as 0 6 = MISSING", "hold 0 0 = 1", "as 0 6 = 0", "as 1 6 = MISSING", "hold 0 -1 = 1",
                "as 0 6 = MISSING");
        edge(33, "KIND: it isn't of that kind, nor of one under it", (Object) ofKinds());
    }

    private static String[] ofKinds() {
        String[] isOrIsUnder = {"0", "01", "02", "013", "0134", "05", "026"};
        List<String> rows = new ArrayList<>();
        rows.add(EIGHT_SAYINGS);
        for (int kind = 0; kind < 7; kind++) {
            rows.add("hold " + kind + " " + kind + " = 1");
            for (int as = 0; as < 7; as++) {
                boolean is = isOrIsUnder[kind].indexOf('0' + as) >= 0;
                rows.add("as " + kind + " " + as + " = " + (is ? "" + kind : "KIND"));
            }
        }
        rows.addAll(Arrays.asList("change 0 0 6 = 0", "as 0 6 = 0", "as 0 2 = 0", "as 0 1 = KIND"));
        return rows.toArray(new String[0]);
    }

    private static void sheets() {
        edge(34, "A sheet has n numbers, all 0, of 8, 16 or 32 bits", EIGHT_SAYINGS, "sheet 0 8 0 = 0",
                "load 0 = 0", "sheet 0 8 8 = 8", "now 3 = 28", "load 0 = 8", "now 3 = 0",
                "write 0 0 7 = 1", "sheet 0 8 1 = 1", "load 0 = 1", "of 0 2 = 0", "write 0 1 7 = BEYOND",
                "write 0 0 7 = 1", "sheet 0 8 40 = 40", "load 0 = 8", "of 0 2 = 0", "sheet 3 16 40 = 40",
                "sheet 2 32 40 = 40", "write 2 39 1 = 1", "write 2 40 1 = BEYOND", "row 1 8: 5 6 7",
                "sheet 0 8 40 = 40", "write 0 39 9 = 1", "sheet 2 8 40 = 40", "write 2 0 9 = 1",
                "load 1 = 3", "of 0 2 = 5", "of 2 2 = 7", "sheet 1 8 3 = 3", "load 1 = 3", "of 0 2 = 0",
                "of 1 2 = 0", "of 2 2 = 0", "load 2 = 8", "of 0 2 = 9", "copy 0 39 1 2 1 = 1",
                "load 1 = 3", "of 2 2 = 9");
        edge(34, "bits 0: it is MISSING: n (0 if it is MISSING)", "sheet 0 0 0 = 0", "sheet 0 0 40 = 0",
                "sheet 0 8 3 = 3", "judge 0 = 1", "sheet 0 0 3 = 0", "judge 0 = MISSING",
                "write 0 0 0 = MISSING");
        edge(34, "BEYOND: no such sheet, other bits", outside("sheet 0 8 1", 0, 3),
                "sheet 0 1 1 = BEYOND", "sheet 0 7 1 = BEYOND", "sheet 0 9 1 = BEYOND",
                "sheet 0 15 1 = BEYOND", "sheet 0 17 1 = BEYOND", "sheet 0 24 1 = BEYOND",
                "sheet 0 31 1 = BEYOND", "sheet 0 33 1 = BEYOND", "sheet 0 64 1 = BEYOND",
                "sheet 0 -8 1 = BEYOND", "sheet 0 MIN 1 = BEYOND", "sheet 0 MAX 1 = BEYOND",
                "sheet 4 8 -1 = BEYOND", "sheet 0 9 -1 = BEYOND", "judge 0 = MISSING");
        edge(34, "SIZE: n is below 0 (also with bits 0)", "row 0 8: 5 6", "sheet 0 8 -1 = SIZE",
                "sheet 0 16 MIN = SIZE", "sheet 0 32 -1 = SIZE", "sheet 0 0 -1 = SIZE",
                "sheet 0 0 MIN = SIZE", "write 0 1 1 = 1");
        edge(34, "BEYOND: n is above 40", "row 0 8: 5 6", "sheet 0 8 41 = BEYOND",
                "sheet 0 16 41 = BEYOND", "sheet 0 32 MAX = BEYOND", "sheet 0 8 40 = 40");
    }

    private static void writes() {
        edge(35, "Number i of a sheet becomes v (its lowest bits): 1", "say 'plain 50;plain 50' = 2",
                "row 0 8: 0 256", "load 0 = 2", "of 1 2 = 0", "row 0 8: 355 -157", "load 0 = 2",
                "of 0 2 = 99", "of 1 2 = 99", "row 0 8: 356", "load 0 = 0", "row 0 8: 128 127",
                "load 0 = 0", "row 0 8: 255", "fits 0 0 = 100", "row 1 16: 65536 65635", "load 1 = 2",
                "of 0 2 = 0", "of 1 2 = 99", "row 1 16: 65636", "load 1 = 0", "row 1 16: 32768",
                "load 1 = 0", "row 1 16: 65535", "fits 1 0 = 100", "row 1 16: 255", "fits 1 0 = 0",
                "row 2 32: 65536", "load 2 = 0", "row 2 32: MIN", "load 2 = 0", "row 2 32: 98 MAX",
                "load 2 = 1", "of 0 2 = 98", "row 2 32: 65535", "fits 2 0 = 0", "write 2 0 MIN = 1");
        edge(35, "BEYOND: no such sheet", "write 4 0 0 = BEYOND", "write -1 0 0 = BEYOND",
                "write MIN 0 0 = BEYOND", "write MAX 99 0 = BEYOND");
        edge(35, "MISSING", "write 0 0 0 = MISSING", "write 3 -1 0 = MISSING", "sheet 0 8 1 = 1",
                "write 0 0 0 = 1", "sheet 0 0 1 = 0", "write 0 0 0 = MISSING");
        edge(35, "BEYOND: no such number", "row 0 8: 1 2 3", "write 0 2 4 = 1", "write 0 3 5 = BEYOND",
                "write 0 -1 5 = BEYOND", "write 0 MIN 5 = BEYOND", "write 0 MAX 5 = BEYOND",
                "sheet 1 8 0 = 0", "write 1 0 5 = BEYOND");
    }

    private static void copies() {
        String[] fiveToSee = {"say 'plain 0;plain 0;plain 0;plain 0;plain 0' = 5", "row 0 8: 1 2 3 4 5"};
        edge(36, "n numbers of a sheet from one on come to another one from one on (as they all were): n",
                fiveToSee, "copy 0 0 0 1 4 = 4", "load 0 = 5", "of 0 2 = 1", "of 1 2 = 1", "of 2 2 = 2",
                "of 3 2 = 3", "of 4 2 = 4", "row 0 8: 1 2 3 4 5", "copy 0 1 0 0 4 = 4", "load 0 = 5",
                "of 0 2 = 2", "of 3 2 = 5", "of 4 2 = 5", "sheet 3 8 5 = 5", "copy 0 0 3 0 5 = 5",
                "load 3 = 5", "of 0 2 = 2", "copy 0 0 3 0 0 = 0", "copy 0 5 3 5 0 = 0");
        edge(36, "BEYOND: no such sheet (either)", fiveToSee, outside("copy 0 0 0 0 1", 0, 3),
                "copy 0 0 -1 0 1 = BEYOND", "copy 0 0 4 0 1 = BEYOND", "copy 0 0 MIN 0 1 = BEYOND",
                "copy 0 0 MAX 0 1 = BEYOND", "copy 1 0 4 0 1 = BEYOND", "copy 4 0 1 0 1 = BEYOND");
        edge(36, "MISSING: one is", "copy 0 0 1 0 0 = MISSING", fiveToSee, "copy 0 0 1 0 0 = MISSING",
                "copy 1 0 0 0 0 = MISSING", "copy 0 -1 1 9 99 = MISSING", "copy 2 0 2 0 0 = MISSING");
        edge(36, "KIND: they are not of as many bits", fiveToSee, "sheet 1 16 5 = 5", "sheet 2 32 5 = 5",
                "copy 0 0 1 0 1 = KIND", "copy 1 0 0 0 1 = KIND", "copy 1 0 2 0 1 = KIND",
                "copy 0 0 2 0 0 = KIND", "copy 0 -1 2 0 99 = KIND");
        edge(36, "BEYOND: one has not so many, or from, to or n is below 0", fiveToSee,
                "sheet 1 8 3 = 3", "copy 0 0 1 0 3 = 3", "copy 0 2 1 0 3 = 3", "copy 0 0 1 0 4 = BEYOND",
                "copy 0 3 1 0 3 = BEYOND", "copy 0 0 1 1 3 = BEYOND", "copy 1 0 0 0 4 = BEYOND",
                "copy 1 0 0 3 3 = BEYOND", "copy 0 5 1 3 0 = 0", "copy 0 6 1 0 0 = BEYOND",
                "copy 0 0 1 4 0 = BEYOND", "copy 0 -1 1 0 1 = BEYOND", "copy 0 0 1 -1 1 = BEYOND",
                "copy 0 0 1 0 -1 = BEYOND", "copy 0 MAX 1 0 1 = BEYOND", "copy 0 0 1 MAX 1 = BEYOND",
                "copy 0 0 1 0 MAX = BEYOND", "copy 0 1 1 1 MAX = BEYOND", "copy 0 MAX 1 MAX MAX = BEYOND",
                "copy 0 MIN 1 0 1 = BEYOND", "copy 0 0 1 MIN 1 = BEYOND", "copy 0 0 1 0 MIN = BEYOND",
                "copy 0 MIN 1 MIN MIN = BEYOND");
    }

    private static void loadsAndJudges() {
        edge(37, "It ends at the first that isn't 0 to 99, or for which there is no SAYING",
                "row 0 16: 0 99 100 3", "load 0 = 0", "say 'plain 50;plain 50;plain 50 finished' = 3",
                "load 0 = 2", "of 0 2 = 0", "of 1 2 = 99", "of 2 2 = 50", "row 0 16: 1 2 3 4",
                "load 0 = 3", "of 2 2 = 3", "row 0 16: -1 7", "load 0 = 0", "of 1 2 = 2", "row 0 16: 9",
                "load 0 = 1", "of 0 2 = 9", "of 1 2 = 2", "row 0 16:", "load 0 = 0");
        edge(37, "BEYOND: no such sheet", "saying 0 5 5 = 0", outside("load 0", 0, 3));
        edge(37, "MISSING", "saying 0 5 5 = 0", "load 0 = MISSING", "load 3 = MISSING",
                "sheet 3 8 1 = 1", "load 3 = 1", "sheet 3 0 1 = 0", "load 3 = MISSING");
        edge(38, "0 if so; else 1 and the place of the first that isn't so", "row 0 8:", "judge 0 = 0",
                "row 0 8: 0", "judge 0 = 1", "say 'ship at 0;ship at 15;ship at 7' = 3", "judge 0 = 0",
                "row 0 8: 0 15 7", "judge 0 = 0", "row 0 8: 0 15 7 0", "judge 0 = 4", "row 0 8: 0 15 6",
                "judge 0 = 3", "row 0 8: 1 15 6", "judge 0 = 1", "row 0 8: 0 14 6", "judge 0 = 2",
                "row 0 8: -1", "judge 0 = 1", "row 0 32: 256", "judge 0 = 1", "row 0 8: 256",
                "judge 0 = 0", "status -1 = 0");
        edge(38, "BEYOND: no such sheet", "ship 0 1 = 0", outside("judge 0", 0, 3));
        edge(38, "MISSING", "judge 0 = MISSING", "judge 3 = MISSING", "sheet 3 8 0 = 0", "judge 3 = 0",
                "sheet 3 0 0 = 0", "judge 3 = MISSING");
    }

    // ---- Promises 39 to 43: images

    private static void images() {
        edge(39, "All but THE TAPE and SHEETS is kept: 1",
                "say 'law 20 at 3;ship at 4;finish 2 0' = 3", "hold 5 0 = 1", "seed 9 = 1", "go 1",
                "row 0 8: 1", "tape 'law' = 3", "image = 1", "tape ' 1' = 5", "row 0 8: 2 3",
                "row 1 8: 4", "change 0 0 1 = 6", "change 0 1 9 = 3", "change 0 2 90 = 21",
                "change 0 3 1 = 0", "change 0 4 99 = 1", "steer 0 0 1 = 6", "steer 0 1 1 = 30",
                "steer 0 2 1 = 2", "steer 0 3 1 = 0", "list 2 8 = 0", "hold 5 -1 = 1", "hold 6 0 = 1",
                "seed 10 = 9", "go 2", "saying 0 0 0 = 1", "ship 0 1 = 1", "undo = 1", "count 0 = 1",
                "count 1 = 1", "count 2 = 1", "count 6 = 9", "count 7 = 1", "as 5 6 = 0",
                "as 6 0 = MISSING", "of 0 0 = 6", "of 0 1 = 3", "of 0 2 = 21", "of 0 3 = 0",
                "of 0 4 = 1", "ofShip 0 0 = 6", "ofShip 0 1 = 30", "ofShip 0 2 = 2", "ofShip 0 3 = 0",
                "listed 2 = 0", "count 5 = 5", "load 0 = 1", "of 0 2 = 2", "load 1 = 1", "of 0 2 = 4",
                "text = 1", "of 1 2 = 1");
        edge(40, "It becomes what was kept latest (which stays): DAY", "image = 1", "go 3 = 0",
                "image = 1", "go 60 = 0", "undo = 3", "undo = 3", "saying 0 0 0 = 0", "undo = 3",
                "count 1 = 0", "go 1 = 0", "undo = 3", "image = 1", "undo = 3");
        edge(40, "NONE: nothing is kept", "undo = NONE", "go 2 = 0", "undo = NONE", "now 0 = 2",
                "image = 1", "tear = 1", "undo = NONE", "image = 1", "undo = 2");
        edge(41, "Nothing is kept: 1 if something was, else 0", "tear = 0", "image = 1", "image = 1",
                "tear = 1", "tear = 0", "go 1 = 0", "image = 1", "undo = 1", "tear = 1", "undo = NONE",
                "tear = 0", "now 0 = 1");
    }

    private static void counts() {
        edge(42, "BEYOND: another what", outside("count 0", 0, 7), "count 0 = 0", "count 7 = 0",
                "status 0 = 4");
        edge(42, "0 DAY, 1 SAYINGS, 2 SHIPS, 3 WAITED of all together, 4 how many SAYINGS are FINISHED",
                EIGHT_SAYINGS, SIX_SHIPS, "count 1 = 8", "count 2 = 6", "count 3 = 0", "count 4 = 0",
                "steer 0 3 9999", "steer 1 3 9999", "steer 2 3 9999", "steer 3 3 9999", "steer 4 3 9999",
                "steer 5 3 9999", "count 3 = 59994", "change 0 3 1 = 0", "change 7 3 1 = 0",
                "count 4 = 2", "go 60", "count 0 = 60");
        edge(43, "How many acts answered a finding ever (undo() takes none back)", "image = 1",
                "thick 16 = BEYOND", "undo = 0", "status -1 = 1", "status 0 = 1", "tear = 1",
                "undo = NONE", "status -1 = 2", "status 3 = 1", "wipe = 0", "status -1 = 2");
        edge(43, "which -1: all, 0 to 6: BEYOND to SIZE", "thick 16 = BEYOND", "thick 16 = BEYOND",
                SIX_SHIPS, times(3, "ship 0 1 = FULL"), "saying 0 0 0 = 0", "hold 0 0 = 1",
                times(4, "as 0 1 = KIND"), times(5, "undo = NONE"), times(6, "load 0 = MISSING"),
                times(7, "sheet 0 8 -1 = SIZE"), "status 0 = 2", "status 1 = 3", "status 2 = 4",
                "status 3 = 5", "status 4 = 0", "status 5 = 6", "status 6 = 7", "status -1 = 27");
        edge(43, "BEYOND (counted from then on): another one", "status 7 = BEYOND", "status 0 = 1",
                "status -2 = BEYOND", "status MIN = BEYOND", "status MAX = BEYOND", "status 0 = 4",
                "status -1 = 4", "status 6 = 0");
    }

    public static void main(String[] args) throws IOException {
        document = new Document(Path.of("../shared/DOC.md"));
        if (document.promises() != 43) {
            wrong("the document has " + document.promises() + " promises");
        }
        findings();
        cellsAndList();
        whatSayingsHave();
        whatKindsDo();
        thickness();
        whatShipsHave();
        aDay();
        theDraws();
        tokens();
        items();
        faults();
        spotsAndSheetsAtFirst();
        aNewObject();
        list();
        newOnes();
        whatTheyHave();
        days();
        now();
        whatWillBe();
        whenItWillBe();
        whatToFinish();
        eyesAndSpeed();
        decide();
        toldThickness();
        committees();
        odds();
        theTape();
        spots();
        sheets();
        writes();
        copies();
        loadsAndJudges();
        images();
        counts();
        for (String left : document.boundariesNotQuoted()) {
            wrong(left);
        }
        System.out.println(sentences + " sentences, " + wrong + " wrong");
        if (wrong != 0) {
            System.exit(1);
        }
    }
}
