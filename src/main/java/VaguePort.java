import java.util.Arrays;

/**
 * An estuary whose fog comes up from whatever has been left vague: sayings of kinds, a list that
 * finishes them, ships that go on when they see. The numbered promises are those of DOC.md.
 */
public final class VaguePort {
    private static final int LOW = -1000001;
    private static final int BEYOND = LOW;
    private static final int FULL = LOW - 1;
    private static final int KIND = LOW - 2;
    private static final int NONE = LOW - 3;
    private static final int STATE = LOW - 4;
    private static final int MISSING = LOW - 5;
    private static final int SIZE = LOW - 6;
    private static final int SORTS_OF_FINDINGS = 7;

    private static final int CELLS = 16;
    private static final int PORT = 15;
    private static final int MOST_SAYINGS = 8;
    private static final int MOST_SHIPS = 6;
    private static final int PLACES = 6;
    private static final int NO_SAYING = 8;
    private static final int SPOTS = 10;
    private static final int NOTHING = -1;
    private static final int MOST_DAY = 99999;
    private static final int MOST_COUNTED = 9999;
    private static final int MORE_THAN_ALL_WAITED = MOST_SHIPS * MOST_COUNTED + 1;
    private static final int MOST_VAGUE = 99;
    private static final int MOST_SEES = 99;
    private static final int FIRST_SEES = 30;
    private static final int MOST_FAST = 5;
    private static final int FIRST_FAST = 2;

    private static final int SAYING = 0;
    private static final int PROMISE = 1;
    private static final int SERMON = 2;
    private static final int WILL = 3;
    private static final int ENGAGEMENT = 4;
    private static final int PLAIN = 5;
    private static final int LAW = 6;
    private static final int KINDS = 7;

    private static final int OF_KIND = 0;
    private static final int OF_CELL = 1;
    private static final int OF_VAGUE = 2;
    private static final int OF_FINISHED = 3;
    private static final int OF_SAID = 4;
    private static final int OF_THICKENS = 5;
    private static final int OF_REACHES = 6;
    private static final int OF_BLURS = 7;
    private static final int OF_RESISTS = 8;
    private static final int HELD_OF_SAYING = 5;
    private static final int[] HIGHEST_OF_SAYING = {6, 15, 99, 1, 9999};

    private static final int SHIP_CELL = 0;
    private static final int SHIP_SEES = 1;
    private static final int SHIP_FAST = 2;
    private static final int SHIP_WAITED = 3;
    private static final int HELD_OF_SHIP = 4;
    private static final int[] LOWEST_OF_SHIP = {0, 0, 1, 0};
    private static final int[] HIGHEST_OF_SHIP = {15, 99, 5, 9999};
    private static final int NO_SHIPS = 0;
    private static final int ALL_SHIPS = (1 << MOST_SHIPS) - 1;

    private static final int MOST_GONE = 60;
    private static final int MOST_AHEAD = 100;
    private static final int MOST_LOOKED = 200;
    private static final int MOST_TRIED = 40;
    private static final int MOST_DECIDED = 16;
    private static final int MOST_DRAWN = 20;
    private static final int MOST_ODDS = 15;
    private static final int MOST_CLOSED = 999;
    private static final int ASKED_OF_SHEET = 8;
    private static final int ANY = -1;

    private static final int MOST_BYTES = 120;
    private static final int SHEETS = 4;
    private static final int MOST_NUMBERS = 40;

    private final Estuary present = new Estuary();
    private final Estuary trial = new Estuary();
    private final Estuary kept = new Estuary();
    private boolean isKept = false;
    private final Tape tape = new Tape();
    private final Sheets sheets = new Sheets();
    private final int[] findings = new int[SORTS_OF_FINDINGS];

    public VaguePort() {
    }

    // ---- estuary

    public int list(int i, int saying) {
        if (!isPlace(i) || !within(saying, 0, NO_SAYING)) {
            return finding(BEYOND);
        }
        int was = present.placeAt(i);
        present.setPlace(i, saying);
        return was;
    }

    public int listed(int i) {
        return isPlace(i) ? present.placeAt(i) : finding(BEYOND);
    }

    public int saying(int kind, int vague, int cell) {
        if (!isKind(kind) || !within(vague, 0, MOST_VAGUE) || !isCell(cell)) {
            return finding(BEYOND);
        }
        if (present.sayingCount >= MOST_SAYINGS) {
            return finding(FULL);
        }
        return present.addSaying(kind, vague, cell);
    }

    public int ship(int cell, int fast) {
        if (!isCell(cell) || !within(fast, 1, MOST_FAST)) {
            return finding(BEYOND);
        }
        if (present.shipCount >= MOST_SHIPS) {
            return finding(FULL);
        }
        return present.addShip(cell, FIRST_SEES, fast);
    }

    public int of(int saying, int what) {
        if (!present.hasSaying(saying) || !within(what, OF_KIND, OF_RESISTS)) {
            return finding(BEYOND);
        }
        return present.tellOfSaying(saying, what);
    }

    public int change(int saying, int what, int v) {
        if (!present.hasSaying(saying) || !within(what, OF_KIND, OF_SAID)) {
            return finding(BEYOND);
        }
        if (!within(v, 0, numberAt(HIGHEST_OF_SAYING, what))) {
            return finding(BEYOND);
        }
        int was = present.sayingHas(saying, what);
        present.setOfSaying(saying, what, v);
        return was;
    }

    public int ofShip(int ship, int what) {
        if (!present.hasShip(ship) || !within(what, SHIP_CELL, SHIP_WAITED)) {
            return finding(BEYOND);
        }
        return present.shipHas(ship, what);
    }

    public int steer(int ship, int what, int v) {
        if (!present.hasShip(ship) || !within(what, SHIP_CELL, SHIP_WAITED)) {
            return finding(BEYOND);
        }
        if (!within(v, numberAt(LOWEST_OF_SHIP, what), numberAt(HIGHEST_OF_SHIP, what))) {
            return finding(BEYOND);
        }
        int was = present.shipHas(ship, what);
        present.setOfShip(ship, what, v);
        return was;
    }

    public int thick(int cell) {
        return isCell(cell) ? present.thickAt(cell) : finding(BEYOND);
    }

    // ---- days

    public int go(int n) {
        if (!within(n, 1, MOST_GONE)) {
            return finding(BEYOND);
        }
        if (present.day + n > MOST_DAY) {
            return finding(STATE);
        }
        present.passDays(n, ALL_SHIPS);
        return present.shipsInPort();
    }

    public int now(int what) {
        switch (what) {
            case 0:
                return present.day;
            case 1:
                return present.shipsInPort();
            case 2:
                return present.finishedSayings();
            case 3:
                return present.vagueTogether();
            case 4:
                return present.waitedTogether();
            case 5:
                return present.thickestCell();
            case 6:
                return present.clearCells();
            case 7:
                return present.shipsThatGoOn();
            default:
                return finding(BEYOND);
        }
    }

    // ---- what will be (nothing changes)

    public int ahead(int saying, int what, int n) {
        if (!present.hasSaying(saying) || !within(what, OF_VAGUE, OF_THICKENS)
                || !within(n, 0, MOST_AHEAD)) {
            return finding(BEYOND);
        }
        return behindDays(n, NO_SHIPS).tellOfSaying(saying, what);
    }

    public int later(int ship, int what, int n) {
        if (!present.hasShip(ship) || (what != SHIP_CELL && what != SHIP_WAITED)
                || !within(n, 0, MOST_AHEAD)) {
            return finding(BEYOND);
        }
        return behindDays(n, ALL_SHIPS).shipHas(ship, what);
    }

    public int fog(int cell, int n) {
        if (!isCell(cell) || !within(n, 0, MOST_AHEAD)) {
            return finding(BEYOND);
        }
        return behindDays(n, NO_SHIPS).thickAt(cell);
    }

    public int lands(int ship) {
        if (!present.hasShip(ship)) {
            return finding(BEYOND);
        }
        trial.become(present);
        for (int n = 0; n <= MOST_LOOKED; n++) {
            if (trial.isInPort(ship)) {
                return n;
            }
            trial.passDays(1, 1 << ship);
        }
        return finding(NONE);
    }

    public int closes(int cell, int v) {
        if (!isCell(cell) || !within(v, 0, MOST_CLOSED)) {
            return finding(BEYOND);
        }
        trial.become(present);
        for (int n = 0; n <= MOST_LOOKED; n++) {
            if (trial.thickAt(cell) >= v) {
                return n;
            }
            trial.passDays(1, NO_SHIPS);
        }
        return finding(NONE);
    }

    public int settled() {
        trial.become(present);
        for (int n = 0; n <= MOST_LOOKED; n++) {
            if (Integer.bitCount(trial.finishedSayings()) == trial.sayingCount) {
                return n;
            }
            trial.passDays(1, NO_SHIPS);
        }
        return finding(NONE);
    }

    // ---- what to finish

    public int finishFor(int i, int n) {
        if (!isPlace(i) || !within(n, 0, MOST_TRIED)) {
            return finding(BEYOND);
        }
        int best = NO_SAYING;
        int least = MORE_THAN_ALL_WAITED;
        for (int saying = 0; saying <= NO_SAYING; saying++) {
            trial.become(present);
            trial.setPlace(i, saying);
            trial.passDays(n, ALL_SHIPS);
            int waited = trial.waitedTogether();
            if (waited < least) {
                least = waited;
                best = saying;
            }
        }
        return best;
    }

    public int kindFor(int saying, int n) {
        if (!present.hasSaying(saying) || !within(n, 0, MOST_TRIED)) {
            return finding(BEYOND);
        }
        int best = SAYING;
        int least = MORE_THAN_ALL_WAITED;
        for (int kind = SAYING; kind < KINDS; kind++) {
            trial.become(present);
            trial.setOfSaying(saying, OF_KIND, kind);
            trial.passDays(n, ALL_SHIPS);
            int waited = trial.waitedTogether();
            if (waited < least) {
                least = waited;
                best = kind;
            }
        }
        return best;
    }

    public int eyesFor(int ship, int n) {
        return leastToLand(ship, n, SHIP_SEES);
    }

    public int speedFor(int ship, int n) {
        return leastToLand(ship, n, SHIP_FAST);
    }

    public int decide(int n) {
        if (!within(n, 0, MOST_DECIDED)) {
            return finding(BEYOND);
        }
        int finished = present.finishedSayings();
        int best = NOTHING;
        int fewest = MOST_SAYINGS + 1;
        // Sets come by their numbers, so that of equally few the first one found is the least.
        for (int set = 0; set < 1 << present.sayingCount; set++) {
            boolean mayBeFewest = (set & finished) == 0 && Integer.bitCount(set) < fewest;
            if (mayBeFewest && allLandIfFinished(set, n)) {
                best = set;
                fewest = Integer.bitCount(set);
            }
        }
        return best == NOTHING ? finding(NONE) : best;
    }

    // ---- told thickness

    public int fits(int s, int saying) {
        int wrong = faultOfTold(s, saying);
        if (wrong != 0) {
            return finding(wrong);
        }
        int fitting = 0;
        for (int vague = 0; vague <= MOST_VAGUE; vague++) {
            if (isAsTold(s, saying, OF_VAGUE, vague)) {
                fitting++;
            }
        }
        return fitting;
    }

    public int kinds(int s, int saying) {
        int wrong = faultOfTold(s, saying);
        if (wrong != 0) {
            return finding(wrong);
        }
        int set = 0;
        for (int kind = SAYING; kind < KINDS; kind++) {
            if (isAsTold(s, saying, OF_KIND, kind)) {
                set |= 1 << kind;
            }
        }
        return set;
    }

    // ---- committees

    public int committee(int n) {
        if (!within(n, 1, MOST_DRAWN)) {
            return finding(BEYOND);
        }
        if (present.day + n > MOST_DAY) {
            return finding(STATE);
        }
        for (int sitting = 0; sitting < n; sitting++) {
            present.setPlace(present.placeOfDay(), present.draw() % (NO_SAYING + 1));
            present.makeVaguer(present.draw() % MOST_SAYINGS);
            present.passDays(1, ALL_SHIPS);
        }
        return present.shipsInPort();
    }

    public long odds(int ship, int n, int what) {
        if (!present.hasShip(ship) || !within(n, 0, MOST_ODDS) || !within(what, 0, 1)) {
            return finding(BEYOND);
        }
        long above = 1;
        long below = 1;
        int good = present.cellsWhereGoesOn(ship);
        for (int drawn = 0; drawn < n; drawn++) {
            above *= good;
            below *= CELLS;
        }
        // What is below the line is a power of two, so halving is all that can be cut (0 too: 0/1).
        for (int halved = 0; halved < 4 * MOST_ODDS && below > 1 && above % 2 == 0; halved++) {
            above /= 2;
            below /= 2;
        }
        return what == 0 ? above : below;
    }

    public int seed(int v) {
        int was = present.z;
        present.z = v;
        return was;
    }

    // ---- texts

    public int feed(int bytes, int n) {
        if (!within(n, 1, 4)) {
            return finding(BEYOND);
        }
        if (tape.length + n > MOST_BYTES) {
            return finding(FULL);
        }
        for (int left = n - 1; left >= 0; left--) {
            tape.add((bytes >> (8 * left)) & 255);
        }
        return tape.length;
    }

    public int wipe() {
        int had = tape.length;
        tape.length = 0;
        return had;
    }

    public int text() {
        trial.become(present);
        int answer = tape.readInto(trial);
        if (answer >= 0) {
            present.become(trial);
        }
        tape.length = 0;
        return answer;
    }

    // ---- spots, sheets

    public int hold(int spot, int saying) {
        if (!within(spot, 0, SPOTS - 1) || (saying != NOTHING && !present.hasSaying(saying))) {
            return finding(BEYOND);
        }
        present.setHeld(spot, saying);
        return 1;
    }

    public int as(int spot, int kind) {
        if (!within(spot, 0, SPOTS - 1) || !isKind(kind)) {
            return finding(BEYOND);
        }
        int saying = present.heldIn(spot);
        if (saying == NOTHING) {
            return finding(MISSING);
        }
        boolean isOfKind = Kinds.isOrIsUnder(present.sayingHas(saying, OF_KIND), kind);
        return isOfKind ? saying : finding(KIND);
    }

    public int sheet(int s, int bits, int n) {
        if (!isSheet(s) || (bits != 0 && bits != 8 && bits != 16 && bits != 32)) {
            return finding(BEYOND);
        }
        if (n < 0) {
            return finding(SIZE);
        }
        if (n > MOST_NUMBERS) {
            return finding(BEYOND);
        }
        return sheets.lay(s, bits, n);
    }

    public int write(int s, int i, int v) {
        int wrong = faultOfSheet(s);
        if (wrong != 0) {
            return finding(wrong);
        }
        if (!within(i, 0, sheets.sizeOf(s) - 1)) {
            return finding(BEYOND);
        }
        sheets.put(s, i, v);
        return 1;
    }

    public int copy(int s, int from, int t, int to, int n) {
        if (!isSheet(s) || !isSheet(t)) {
            return finding(BEYOND);
        }
        if (sheets.isMissing(s) || sheets.isMissing(t)) {
            return finding(MISSING);
        }
        if (sheets.bitsOf(s) != sheets.bitsOf(t)) {
            return finding(KIND);
        }
        if (!sheets.hasSoMany(s, from, n) || !sheets.hasSoMany(t, to, n)) {
            return finding(BEYOND);
        }
        sheets.carry(s, from, t, to, n);
        return n;
    }

    public int load(int s) {
        int wrong = faultOfSheet(s);
        if (wrong != 0) {
            return finding(wrong);
        }
        int most = Math.min(sheets.sizeOf(s), present.sayingCount);
        for (int i = 0; i < most; i++) {
            int vague = sheets.numberOf(s, i);
            if (!within(vague, 0, MOST_VAGUE)) {
                return i;
            }
            present.setOfSaying(i, OF_VAGUE, vague);
        }
        return most;
    }

    public int judge(int s) {
        int wrong = faultOfSheet(s);
        if (wrong != 0) {
            return finding(wrong);
        }
        for (int i = 0; i < sheets.sizeOf(s); i++) {
            if (!present.hasShip(i) || present.shipHas(i, SHIP_CELL) != sheets.numberOf(s, i)) {
                return 1 + i;
            }
        }
        return 0;
    }

    // ---- images

    public int image() {
        kept.become(present);
        isKept = true;
        return 1;
    }

    public int undo() {
        if (!isKept) {
            return finding(NONE);
        }
        present.become(kept);
        return present.day;
    }

    public int tear() {
        int was = isKept ? 1 : 0;
        isKept = false;
        return was;
    }

    public int count(int what) {
        switch (what) {
            case 0:
                return present.day;
            case 1:
                return present.sayingCount;
            case 2:
                return present.shipCount;
            case 3:
                return present.waitedTogether();
            case 4:
                return Integer.bitCount(present.finishedSayings());
            case 5:
                return tape.length;
            case 6:
                return present.z;
            case 7:
                return present.spotsThatHold();
            default:
                return finding(BEYOND);
        }
    }

    public int status(int which) {
        if (!within(which, -1, SORTS_OF_FINDINGS - 1)) {
            return finding(BEYOND);
        }
        if (which >= 0) {
            return numberAt(findings, which);
        }
        int all = 0;
        for (int found : findings) {
            all += found;
        }
        return all;
    }

    private int finding(int answer) {
        int which = LOW - answer;
        if (within(which, 0, findings.length - 1)) {
            findings[which]++;
        }
        return answer;
    }

    private Estuary behindDays(int n, int moving) {
        trial.become(present);
        trial.passDays(n, moving);
        return trial;
    }

    private int leastToLand(int ship, int n, int what) {
        if (!present.hasShip(ship) || !within(n, 0, MOST_TRIED)) {
            return finding(BEYOND);
        }
        int highest = numberAt(HIGHEST_OF_SHIP, what);
        for (int v = numberAt(LOWEST_OF_SHIP, what); v <= highest; v++) {
            trial.become(present);
            trial.setOfShip(ship, what, v);
            trial.passDays(n, 1 << ship);
            if (trial.isInPort(ship)) {
                return v;
            }
        }
        return finding(NONE);
    }

    private boolean allLandIfFinished(int set, int n) {
        trial.become(present);
        for (int saying = 0; saying < trial.sayingCount; saying++) {
            if ((set >> saying & 1) == 1) {
                trial.setOfSaying(saying, OF_FINISHED, 1);
            }
        }
        // There are many sets to try: one is given up as soon as some ship would come too late.
        for (int left = n; left > 0; left--) {
            if (!trial.couldAllLand(left)) {
                return false;
            }
            trial.passDays(1, ALL_SHIPS);
        }
        return trial.couldAllLand(0);
    }

    private int faultOfSheet(int s) {
        if (!isSheet(s)) {
            return BEYOND;
        }
        return sheets.isMissing(s) ? MISSING : 0;
    }

    private int faultOfTold(int s, int saying) {
        int wrong = faultOfSheet(s);
        if (wrong != 0) {
            return wrong;
        }
        return present.hasSaying(saying) ? 0 : BEYOND;
    }

    private boolean isAsTold(int s, int saying, int what, int v) {
        trial.become(present);
        trial.setOfSaying(saying, what, v);
        int cell = trial.sayingHas(saying, OF_CELL);
        int asked = Math.min(sheets.sizeOf(s), ASKED_OF_SHEET);
        for (int i = 0; i < asked; i++) {
            int told = sheets.numberOf(s, i);
            if (told != ANY && told != trial.thickAt(cell)) {
                return false;
            }
            trial.passDays(1, NO_SHIPS);
        }
        return true;
    }

    private static boolean within(int v, int low, int high) {
        return v >= low && v <= high;
    }

    private static boolean isPlace(int i) {
        return within(i, 0, PLACES - 1);
    }

    private static boolean isCell(int cell) {
        return within(cell, 0, CELLS - 1);
    }

    private static boolean isKind(int kind) {
        return within(kind, 0, KINDS - 1);
    }

    private static boolean isSheet(int s) {
        return within(s, 0, SHEETS - 1);
    }

    private static int numberAt(int[] row, int i) {
        return i >= 0 && i < row.length ? row[i] : 0;
    }

    private static void putAt(int[] row, int i, int v) {
        if (i >= 0 && i < row.length) {
            row[i] = v;
        }
    }

    /** What the seven kinds of sayings do, each told by way of the kind that it is under. */
    private static final class Kinds {
        static int thickens(int kind, int vague, int said) {
            int promise = vague + said / 10;
            int will = 2 * promise;
            int sermon = vague / 2;
            switch (kind) {
                case PROMISE:
                    return promise;
                case WILL:
                    return will;
                case ENGAGEMENT:
                    return will + 40;
                case SERMON:
                    return sermon;
                case LAW:
                    return sermon + 15;
                case PLAIN:
                    return -30;
                default:
                    return vague;
            }
        }

        static int reaches(int kind) {
            int saying = 2;
            int will = saying - 1;
            int sermon = 2 * saying;
            switch (kind) {
                case WILL:
                    return will;
                case ENGAGEMENT:
                    return will + 4;
                case SERMON:
                    return sermon;
                case LAW:
                    return sermon - 1;
                case PLAIN:
                    return 3;
                default:
                    return saying;
            }
        }

        static int blurs(int kind, int day) {
            int saying = 1;
            int promise = saying + 1;
            int sermon = day % 7 == 6 ? 7 : -1;
            switch (kind) {
                case PROMISE:
                case WILL:
                    return promise;
                case ENGAGEMENT:
                    return day % 2 == 1 ? promise + 3 : promise;
                case SERMON:
                    return sermon;
                case LAW:
                    return sermon + 2;
                case PLAIN:
                    return 0;
                default:
                    return saying;
            }
        }

        static int resists(int kind) {
            int saying = MOST_VAGUE;
            int promise = saying - 19;
            int will = promise / 2;
            switch (kind) {
                case PROMISE:
                    return promise;
                case WILL:
                    return will;
                case ENGAGEMENT:
                    return will - 30;
                case LAW:
                    return 20;
                default:
                    return saying;
            }
        }

        /** How much less thick it makes each cell further off. */
        static int fades(int kind, int thickens) {
            return kind == PLAIN ? thickens / 10 : thickens / 5;
        }

        static boolean isOrIsUnder(int kind, int above) {
            int climbed = kind;
            for (int step = 0; step < KINDS && climbed != above && climbed != SAYING; step++) {
                climbed = parentOf(climbed);
            }
            return climbed == above;
        }

        private static int parentOf(int kind) {
            switch (kind) {
                case WILL:
                    return PROMISE;
                case ENGAGEMENT:
                    return WILL;
                case LAW:
                    return SERMON;
                default:
                    return SAYING;
            }
        }

        static String wordOf(int kind) {
            switch (kind) {
                case PROMISE:
                    return "promise";
                case SERMON:
                    return "sermon";
                case WILL:
                    return "will";
                case ENGAGEMENT:
                    return "engagement";
                case PLAIN:
                    return "plain";
                case LAW:
                    return "law";
                default:
                    return "saying";
            }
        }
    }

    /** All that an image keeps; there are three: the present one, one for trials, one kept. */
    private static final class Estuary {
        private final int[] places = new int[PLACES];
        private final int[] spots = new int[SPOTS];
        private final int[] sayings = new int[MOST_SAYINGS * HELD_OF_SAYING];
        private final int[] ships = new int[MOST_SHIPS * HELD_OF_SHIP];
        private int sayingCount = 0;
        private int shipCount = 0;
        private int day = 0;
        private int z = 1;

        Estuary() {
            Arrays.fill(places, NO_SAYING);
            Arrays.fill(spots, NOTHING);
        }

        void become(Estuary other) {
            System.arraycopy(other.places, 0, places, 0, PLACES);
            System.arraycopy(other.spots, 0, spots, 0, SPOTS);
            System.arraycopy(other.sayings, 0, sayings, 0, MOST_SAYINGS * HELD_OF_SAYING);
            System.arraycopy(other.ships, 0, ships, 0, MOST_SHIPS * HELD_OF_SHIP);
            sayingCount = other.sayingCount;
            shipCount = other.shipCount;
            day = other.day;
            z = other.z;
        }

        int placeAt(int i) {
            return numberAt(places, i);
        }

        void setPlace(int i, int saying) {
            putAt(places, i, saying);
        }

        int placeOfDay() {
            return day % PLACES;
        }

        int heldIn(int spot) {
            return numberAt(spots, spot);
        }

        void setHeld(int spot, int saying) {
            putAt(spots, spot, saying);
        }

        int spotsThatHold() {
            int holding = 0;
            for (int saying : spots) {
                if (saying != NOTHING) {
                    holding++;
                }
            }
            return holding;
        }

        boolean hasSaying(int saying) {
            return within(saying, 0, sayingCount - 1);
        }

        boolean hasShip(int ship) {
            return within(ship, 0, shipCount - 1);
        }

        int addSaying(int kind, int vague, int cell) {
            int saying = sayingCount;
            sayingCount++;
            setOfSaying(saying, OF_KIND, kind);
            setOfSaying(saying, OF_CELL, cell);
            setOfSaying(saying, OF_VAGUE, vague);
            setOfSaying(saying, OF_FINISHED, 0);
            setOfSaying(saying, OF_SAID, 0);
            return saying;
        }

        int addShip(int cell, int sees, int fast) {
            int ship = shipCount;
            shipCount++;
            setOfShip(ship, SHIP_CELL, cell);
            setOfShip(ship, SHIP_SEES, sees);
            setOfShip(ship, SHIP_FAST, fast);
            setOfShip(ship, SHIP_WAITED, 0);
            return ship;
        }

        int sayingHas(int saying, int what) {
            int i = saying * HELD_OF_SAYING + what;
            return i >= 0 && i < sayings.length ? sayings[i] : 0;
        }

        void setOfSaying(int saying, int what, int v) {
            putAt(sayings, saying * HELD_OF_SAYING + what, v);
        }

        int shipHas(int ship, int what) {
            return numberAt(ships, ship * HELD_OF_SHIP + what);
        }

        void setOfShip(int ship, int what, int v) {
            putAt(ships, ship * HELD_OF_SHIP + what, v);
        }

        int tellOfSaying(int saying, int what) {
            int kind = sayingHas(saying, OF_KIND);
            switch (what) {
                case OF_THICKENS:
                    return Kinds.thickens(kind, sayingHas(saying, OF_VAGUE),
                            sayingHas(saying, OF_SAID));
                case OF_REACHES:
                    return Kinds.reaches(kind);
                case OF_BLURS:
                    return Kinds.blurs(kind, day);
                case OF_RESISTS:
                    return Kinds.resists(kind);
                default:
                    return sayingHas(saying, what);
            }
        }

        private boolean isFinished(int saying) {
            return sayingHas(saying, OF_FINISHED) == 1;
        }

        int thickAt(int cell) {
            int together = 0;
            for (int saying = 0; saying < sayingCount; saying++) {
                if (!isFinished(saying)) {
                    together += shareAt(saying, cell);
                }
            }
            return Math.max(0, together);
        }

        private int shareAt(int saying, int cell) {
            int kind = sayingHas(saying, OF_KIND);
            int off = Math.abs(cell - sayingHas(saying, OF_CELL));
            if (off > Kinds.reaches(kind)) {
                return 0;
            }
            int thickens = Kinds.thickens(kind, sayingHas(saying, OF_VAGUE),
                    sayingHas(saying, OF_SAID));
            return thickens - off * Kinds.fades(kind, thickens);
        }

        boolean isInPort(int ship) {
            return shipHas(ship, SHIP_CELL) == PORT;
        }

        private boolean goesOnAt(int ship, int cell) {
            return cell != PORT && shipHas(ship, SHIP_SEES) >= thickAt(cell);
        }

        /** Ships don't change what others do, so that a trial moves only those that it asks for. */
        void passDays(int n, int moving) {
            for (int passed = 0; passed < n; passed++) {
                for (int ship = 0; ship < shipCount; ship++) {
                    if ((moving >> ship & 1) == 1 && !isInPort(ship)) {
                        sail(ship);
                    }
                }
                finishByList(placeAt(placeOfDay()));
                for (int saying = 0; saying < sayingCount; saying++) {
                    if (!isFinished(saying)) {
                        blur(saying);
                    }
                }
                day = Math.min(MOST_DAY, day + 1);
            }
        }

        private void sail(int ship) {
            int cell = shipHas(ship, SHIP_CELL);
            if (shipHas(ship, SHIP_SEES) >= thickAt(cell)) {
                setOfShip(ship, SHIP_CELL, Math.min(PORT, cell + shipHas(ship, SHIP_FAST)));
            } else {
                int waited = shipHas(ship, SHIP_WAITED);
                setOfShip(ship, SHIP_WAITED, Math.min(MOST_COUNTED, waited + 1));
            }
        }

        private void finishByList(int saying) {
            if (!hasSaying(saying) || isFinished(saying)) {
                return;
            }
            int vague = sayingHas(saying, OF_VAGUE);
            if (vague <= Kinds.resists(sayingHas(saying, OF_KIND))) {
                setOfSaying(saying, OF_FINISHED, 1);
            } else {
                setOfSaying(saying, OF_VAGUE, vague / 2);
            }
        }

        private void blur(int saying) {
            int vague = sayingHas(saying, OF_VAGUE)
                    + Kinds.blurs(sayingHas(saying, OF_KIND), day);
            setOfSaying(saying, OF_VAGUE, Math.max(0, Math.min(MOST_VAGUE, vague)));
            int said = sayingHas(saying, OF_SAID);
            setOfSaying(saying, OF_SAID, Math.min(MOST_COUNTED, said + 1));
        }

        int draw() {
            z = z * 1103515245 + 12345;
            return z >>> 8;
        }

        void makeVaguer(int saying) {
            if (hasSaying(saying)) {
                int vague = sayingHas(saying, OF_VAGUE) + 5;
                setOfSaying(saying, OF_VAGUE, Math.min(MOST_VAGUE, vague));
            }
        }

        int shipsInPort() {
            int set = 0;
            for (int ship = 0; ship < shipCount; ship++) {
                if (isInPort(ship)) {
                    set |= 1 << ship;
                }
            }
            return set;
        }

        boolean couldAllLand(int days) {
            for (int ship = 0; ship < shipCount; ship++) {
                if (shipHas(ship, SHIP_CELL) + days * shipHas(ship, SHIP_FAST) < PORT) {
                    return false;
                }
            }
            return true;
        }

        int shipsThatGoOn() {
            int set = 0;
            for (int ship = 0; ship < shipCount; ship++) {
                if (goesOnAt(ship, shipHas(ship, SHIP_CELL))) {
                    set |= 1 << ship;
                }
            }
            return set;
        }

        int cellsWhereGoesOn(int ship) {
            int cells = 0;
            for (int cell = 0; cell < CELLS; cell++) {
                if (goesOnAt(ship, cell)) {
                    cells++;
                }
            }
            return cells;
        }

        int finishedSayings() {
            int set = 0;
            for (int saying = 0; saying < sayingCount; saying++) {
                if (isFinished(saying)) {
                    set |= 1 << saying;
                }
            }
            return set;
        }

        int vagueTogether() {
            int together = 0;
            for (int saying = 0; saying < sayingCount; saying++) {
                if (!isFinished(saying)) {
                    together += sayingHas(saying, OF_VAGUE);
                }
            }
            return together;
        }

        int waitedTogether() {
            int together = 0;
            for (int ship = 0; ship < shipCount; ship++) {
                together += shipHas(ship, SHIP_WAITED);
            }
            return together;
        }

        int thickestCell() {
            int thickest = 0;
            int most = -1;
            for (int cell = 0; cell < CELLS; cell++) {
                int thick = thickAt(cell);
                if (thick > most) {
                    most = thick;
                    thickest = cell;
                }
            }
            return thickest;
        }

        int clearCells() {
            int set = 0;
            for (int cell = 0; cell < CELLS; cell++) {
                if (thickAt(cell) == 0) {
                    set |= 1 << cell;
                }
            }
            return set;
        }
    }

    /** The bytes of a text, and the reading of it, token by token. */
    private static final class Tape {
        private static final int END = 0;
        private static final int WORD = 1;
        private static final int NUMBER = 2;
        private static final int SIGN = 3;
        private static final int NO_TOKEN = 4;
        private static final int WRONG = -1;
        private static final int TOO_GREAT = 10000;

        private final int[] bytes = new int[MOST_BYTES];
        private int length = 0;
        private int sort = END;
        private int begin = 0;
        private int end = 0;
        private int value = 0;

        void add(int b) {
            putAt(bytes, length, b);
            length = Math.min(MOST_BYTES, length + 1);
        }

        /** How many items; with a fault -1 less the fault, and the estuary is spoilt then. */
        int readInto(Estuary estuary) {
            end = 0;
            advance();
            for (int items = 1; items <= MOST_BYTES; items++) {
                int kind = kindAtHand();
                boolean isRead;
                if (kind != NOTHING) {
                    isRead = readSaying(estuary, kind);
                } else if (isWord("ship")) {
                    isRead = readShip(estuary);
                } else {
                    isRead = isWord("finish") && readFinish(estuary);
                }
                if (isRead && sort == END) {
                    return items;
                }
                if (!isRead || sort != SIGN) {
                    return -1 - begin;
                }
                advance();
            }
            return -1 - begin;
        }

        private int kindAtHand() {
            for (int kind = SAYING; kind < KINDS; kind++) {
                if (isWord(Kinds.wordOf(kind))) {
                    return kind;
                }
            }
            return NOTHING;
        }

        private boolean readSaying(Estuary estuary, int kind) {
            if (estuary.sayingCount >= MOST_SAYINGS) {
                return false;
            }
            advance();
            int vague = readNumber(0, MOST_VAGUE);
            if (vague == WRONG) {
                return false;
            }
            int cell = readOption("at", 0, PORT, 0);
            if (cell == WRONG) {
                return false;
            }
            int said = readOption("said", 0, MOST_COUNTED, 0);
            if (said == WRONG) {
                return false;
            }
            int saying = estuary.addSaying(kind, vague, cell);
            estuary.setOfSaying(saying, OF_SAID, said);
            if (isWord("finished")) {
                estuary.setOfSaying(saying, OF_FINISHED, 1);
                advance();
            }
            return true;
        }

        private boolean readShip(Estuary estuary) {
            if (estuary.shipCount >= MOST_SHIPS) {
                return false;
            }
            advance();
            int cell = readOption("at", 0, PORT, 0);
            if (cell == WRONG) {
                return false;
            }
            int sees = readOption("sees", 0, MOST_SEES, FIRST_SEES);
            if (sees == WRONG) {
                return false;
            }
            int fast = readOption("fast", 1, MOST_FAST, FIRST_FAST);
            if (fast == WRONG) {
                return false;
            }
            estuary.addShip(cell, sees, fast);
            return true;
        }

        private boolean readFinish(Estuary estuary) {
            advance();
            int place = readNumber(0, PLACES - 1);
            if (place == WRONG) {
                return false;
            }
            int saying = readNumber(0, NO_SAYING);
            if (saying == WRONG) {
                return false;
            }
            estuary.setPlace(place, saying);
            return true;
        }

        private int readOption(String word, int low, int high, int without) {
            if (!isWord(word)) {
                return without;
            }
            advance();
            return readNumber(low, high);
        }

        /** The token at hand stays there if it is wrong, so that it tells the fault's place. */
        private int readNumber(int low, int high) {
            if (sort != NUMBER || !within(value, low, high)) {
                return WRONG;
            }
            int read = value;
            advance();
            return read;
        }

        private boolean isWord(String word) {
            if (sort != WORD || end - begin != word.length()) {
                return false;
            }
            for (int i = 0; i < word.length(); i++) {
                if (numberAt(bytes, begin + i) != word.charAt(i)) {
                    return false;
                }
            }
            return true;
        }

        private void advance() {
            begin = end;
            while (begin < length && numberAt(bytes, begin) == ' ') {
                begin++;
            }
            sort = sortAt(begin);
            end = begin;
            value = 0;
            if (sort == WORD || sort == NUMBER) {
                while (end < length && sortAt(end) == sort) {
                    // Held down, so that a long row of digits can't run over into a small number.
                    value = Math.min(TOO_GREAT, value * 10 + numberAt(bytes, end) - '0');
                    end++;
                }
            } else if (sort != END) {
                end++;
            }
        }

        private int sortAt(int place) {
            if (place < 0 || place >= length || place >= bytes.length) {
                return END;
            }
            int b = bytes[place];
            if (b >= 'a' && b <= 'z') {
                return WORD;
            }
            if (b >= '0' && b <= '9') {
                return NUMBER;
            }
            return b == ';' ? SIGN : NO_TOKEN;
        }
    }

    /** Four rows of numbers; one of no bits is missing. */
    private static final class Sheets {
        private final int[] bits = new int[SHEETS];
        private final int[] sizes = new int[SHEETS];
        private final int[] numbers = new int[SHEETS * MOST_NUMBERS];

        boolean isMissing(int s) {
            return bitsOf(s) == 0;
        }

        int bitsOf(int s) {
            return numberAt(bits, s);
        }

        int sizeOf(int s) {
            return numberAt(sizes, s);
        }

        int numberOf(int s, int i) {
            return numberAt(numbers, s * MOST_NUMBERS + i);
        }

        int lay(int s, int wide, int n) {
            int size = wide == 0 ? 0 : n;
            putAt(bits, s, wide);
            putAt(sizes, s, size);
            for (int i = 0; i < MOST_NUMBERS; i++) {
                putAt(numbers, s * MOST_NUMBERS + i, 0);
            }
            return size;
        }

        void put(int s, int i, int v) {
            int cut = v;
            if (bitsOf(s) == 8) {
                cut = (byte) v;
            } else if (bitsOf(s) == 16) {
                cut = (short) v;
            }
            putAt(numbers, s * MOST_NUMBERS + i, cut);
        }

        boolean hasSoMany(int s, int from, int n) {
            return from >= 0 && n >= 0 && (long) from + n <= sizeOf(s);
        }

        void carry(int s, int from, int t, int to, int n) {
            if (isSheet(s) && isSheet(t) && hasSoMany(s, from, n) && hasSoMany(t, to, n)) {
                System.arraycopy(numbers, s * MOST_NUMBERS + from,
                        numbers, t * MOST_NUMBERS + to, n);
            }
        }
    }
}
