/**
 * A harbour with two tides by hours: one of water, one that lifts ships by what they carry.
 * The harbour is told as a text on a tape; its numbered promises stand in the document.
 */
public final class WrongTide {
    public static final int NONE = -1;
    public static final int NOTHING = -1000000000;

    private static final int MOST_BYTES = 1600;
    private static final int FED_BYTES = 20;
    private static final int MOST_STATEMENTS = 80;
    private static final int MOST_LETTERS = 6;
    private static final int MOST_DIGITS = 4;
    private static final int MOST_OPEN = 7;

    private static final int KINDS = 3;
    private static final int WARES = 0;
    private static final int SHIPS = 1;
    private static final int BERTHS = 2;
    private static final int MOST_OF_KIND = 6;
    private static final int MOST_HOLDS = 4;
    private static final int MOST_CRATES = 20;
    private static final int CELLS_OF_SHIP = 24;
    private static final int CELLS = 144;
    private static final int MOST_IN_ROW = 6;
    private static final int MOST_RODE = 10;

    private static final int LAST_HOUR = 9999;
    private static final int HIGHEST = 9999;
    private static final int MOST_AHEAD = 200;
    private static final int MOST_ACTS = 20;
    private static final int MOST_KEPT = 60;
    private static final int MILLION = 1000000;

    private static final int DISCHARGED = 0;
    private static final int LADED = 1;
    private static final int LOST = 2;

    private static final int REFUSED_TAPE = 0;
    private static final int REFUSED_HARBOUR = 1;
    private static final int REFUSED_CRATE = 2;
    private static final int REFUSED_HOURS = 3;
    private static final int REFUSED_UNDO = 4;
    private static final int REFUSED_ROW = 5;
    private static final int REFUSALS = 6;

    private static final int FAULT_GRAMMAR = 1;
    private static final int FAULT_GIVEN = 2;
    private static final int FAULT_NAME = 3;
    private static final int FAULT_NUMBER = 4;
    private static final int FAULT_OPEN = 5;
    private static final int FAULT_MANY = 6;

    // The numbers below are the places in this text.
    private static final String OWN_WORDS = "ware weighs lifts ship holds trims loads berth from to lies water moon rides may gale hour weight lift tip count height if or and not all min max ";
    private static final int OWN_COUNT = 29;
    private static final int WORD_WARE = 0;
    private static final int WORD_WEIGHS = 1;
    private static final int WORD_LIFTS = 2;
    private static final int WORD_SHIP = 3;
    private static final int WORD_HOLDS = 4;
    private static final int WORD_TRIMS = 5;
    private static final int WORD_LOADS = 6;
    private static final int WORD_BERTH = 7;
    private static final int WORD_FROM = 8;
    private static final int WORD_TO = 9;
    private static final int WORD_LIES = 10;
    private static final int WORD_WATER = 11;
    private static final int WORD_MOON = 12;
    private static final int WORD_RIDES = 13;
    private static final int WORD_MAY = 14;
    private static final int WORD_GALE = 15;
    private static final int WORD_HOUR = 16;
    private static final int WORD_WEIGHT = 17;
    private static final int WORD_LIFT = 18;
    private static final int WORD_TIP = 19;
    private static final int WORD_COUNT = 20;
    private static final int WORD_HEIGHT = 21;
    private static final int WORD_IF = 22;
    private static final int WORD_OR = 23;
    private static final int WORD_AND = 24;
    private static final int WORD_NOT = 25;
    private static final int WORD_ALL = 26;
    private static final int WORD_MIN = 27;
    private static final int WORD_MAX = 28;

    // A ware, a ship and a berth are told alike: a name and two numbers behind words.
    private static final int[] FIRST_WORD = {WORD_WEIGHS, WORD_HOLDS, WORD_FROM};
    private static final int[] FIRST_LEAST = {0, 2, 0};
    private static final int[] FIRST_MOST = {99, MOST_HOLDS, HIGHEST};
    private static final int[] SECOND_WORD = {WORD_LIFTS, WORD_TRIMS, WORD_TO};
    private static final int[] SECOND_MOST = {99, 999, HIGHEST};
    private static final int MOST_GALE = 100;

    private static final int FORMULAS = 4;
    private static final int FORMULA_WATER = 0;
    private static final int FORMULA_MOON = 1;
    private static final int FORMULA_RIDES = 2;
    private static final int FORMULA_MAY = 3;

    // What a formula sees, by number; SEEN_IN has a bit for each that the formula may name.
    private static final int SEES_HOUR = 0;
    private static final int SEES_WATER = 1;
    private static final int SEES_MOON = 2;
    private static final int SEES_WEIGHT = 3;
    private static final int SEES_LIFT = 4;
    private static final int SEES_TIP = 5;
    private static final int SEES_COUNT = 6;
    private static final int SEES_HEIGHT = 7;
    private static final int SIGHTS = 8;
    private static final int[] SEEN_WORD = {WORD_HOUR, WORD_WATER, WORD_MOON, WORD_WEIGHT, WORD_LIFT, WORD_TIP, WORD_COUNT, WORD_HEIGHT};
    private static final int[] SEEN_IN = {1, 1, 63, 249};

    // A formula is kept as a row of steps for a stack: 0 and more is a number, -1 to -8 what is seen.
    private static final int STEP_NOT = -9;
    private static final int STEP_IF = -10;
    private static final int STEP_OR = -11;
    private static final int STEP_AND = -12;
    private static final int STEP_LESS = -13;
    private static final int STEP_MORE = -14;
    private static final int STEP_SAME = -15;
    private static final int STEP_PLUS = -16;
    private static final int STEP_MINUS = -17;
    private static final int STEP_TIMES = -18;
    private static final int STEP_BY = -19;
    private static final int STEP_REST = -20;
    private static final int STEP_MIN = -21;
    private static final int STEP_MAX = -22;
    // Eight levels of five values that wait, and some room.
    private static final int STACK = 64;

    private static final int MOST_IMAGE = 153;
    private static final int IMAGE_START = 139;
    private static final int IMAGE_FACTOR = 5;
    private static final int IMAGE_MODULUS = 251;

    private final Tape tape;
    private final Plan plan;
    private final TextReader reader;
    private final Reckoner reckoner;
    private final Standing now;
    private final Standing told;
    private final Past past;
    private final Quays quays;
    private final Rows rows;
    private final Swapper swapper;
    private final int[] refused;
    private final int[] written;
    private int writtenLength;
    private int faultKind;
    private int faultPlace;
    private int luck;

    public WrongTide() {
        tape = new Tape();
        plan = new Plan();
        reader = new TextReader(tape);
        reckoner = new Reckoner(plan);
        now = new Standing();
        told = new Standing();
        past = new Past();
        quays = new Quays(plan, reckoner);
        rows = new Rows(plan, reckoner, tape);
        swapper = new Swapper(plan, reckoner);
        refused = new int[REFUSALS];
        written = new int[MOST_IMAGE];
        faultPlace = NONE;
        luck = 1;
    }

    // ---- the tape, the harbour

    public int feed(int a, int b, int c, int d, int e) {
        if (tape.length + FED_BYTES > MOST_BYTES) {
            return refuse(REFUSED_TAPE);
        }
        tape.add(a);
        tape.add(b);
        tape.add(c);
        tape.add(d);
        tape.add(e);
        return tape.length;
    }

    public boolean end(int n) {
        if (n < 0 || n > tape.length) {
            return refuses(REFUSED_TAPE);
        }
        tape.length = n;
        return true;
    }

    public int harbour() {
        boolean good = reader.read();
        tape.length = 0;
        faultKind = reader.scan.fault;
        faultPlace = reader.scan.place;
        if (!good) {
            return refuse(REFUSED_HARBOUR);
        }
        plan.copy(reader.draft);
        now.copy(reader.first);
        past.forget();
        rows.forget();
        return plan.statements;
    }

    public int fault(int what) {
        switch (what) {
            case 0: return faultKind;
            case 1: return faultPlace;
            default: return NONE;
        }
    }

    // ---- what there is

    public int has(int what) {
        switch (what) {
            case 0: return plan.counts[WARES];
            case 1: return plan.counts[SHIPS];
            case 2: return plan.counts[BERTHS];
            case 3: return now.hour;
            case 4: return reckoner.waterAt(now.hour);
            case 5: return reckoner.moonAt(now.hour);
            case 6: return now.lying();
            case 7: return now.allCrates();
            case 8: return now.keptCount;
            case 9: return past.count;
            case 10: return luck;
            default: return NONE;
        }
    }

    public int letter(int kind, int which, int k) {
        if (!plan.knows(kind, which) || k < 0 || k >= MOST_LETTERS) {
            return NONE;
        }
        return (plan.names[kind * MOST_OF_KIND + which] >> letterShift(k)) & 31;
    }

    public int ware(int ware, int what) {
        if (!plan.knows(WARES, ware)) {
            return NONE;
        }
        switch (what) {
            case 0: return plan.firstOf(WARES, ware);
            case 1: return plan.secondOf(WARES, ware);
            case 2: return now.cratesOf(ware);
            default: return NONE;
        }
    }

    public int ship(int ship, int what) {
        if (!plan.knows(SHIPS, ship)) {
            return NONE;
        }
        reckoner.atHour(now.hour);
        reckoner.look(now.crates, ship);
        switch (what) {
            case 0: return plan.firstOf(SHIPS, ship);
            case 1: return plan.secondOf(SHIPS, ship);
            case 2: return now.lies[ship];
            case 3: return reckoner.sees[SEES_WEIGHT];
            case 4: return reckoner.sees[SEES_LIFT];
            case 5: return reckoner.sees[SEES_COUNT];
            case 6: return reckoner.sees[SEES_HEIGHT];
            case 7: return reckoner.level(ship) ? 1 : 0;
            default: return NONE;
        }
    }

    public int tips(int ship) {
        if (!plan.knows(SHIPS, ship)) {
            return NOTHING;
        }
        return reckoner.tipOf(now.crates, ship);
    }

    public int crates(int ship, int hold, int ware) {
        if (!plan.knowsCell(ship, hold, ware)) {
            return NONE;
        }
        return now.crates[cell(ship, hold, ware)];
    }

    public int berth(int berth, int what) {
        if (!plan.knows(BERTHS, berth)) {
            return NONE;
        }
        switch (what) {
            case 0: return plan.firstOf(BERTHS, berth);
            case 1: return plan.secondOf(BERTHS, berth);
            case 2: return now.shipIn(berth);
            case 3: return safeShips(berth);
            default: return NONE;
        }
    }

    private int safeShips(int berth) {
        reckoner.atHour(now.hour);
        int bits = 0;
        for (int ship = 0; ship < plan.counts[SHIPS]; ship++) {
            reckoner.look(now.crates, ship);
            if (reckoner.safe(ship, berth)) {
                bits |= 1 << ship;
            }
        }
        return bits;
    }

    public int tide(int hour, int what) {
        if (hour < 0 || hour > LAST_HOUR) {
            return NONE;
        }
        switch (what) {
            case 0: return reckoner.waterAt(hour);
            case 1: return reckoner.moonAt(hour);
            default: return NONE;
        }
    }

    // ---- ahead

    public int rides(int ship, int n) {
        if (!plan.knows(SHIPS, ship) || !canLook(n)) {
            return NONE;
        }
        reckoner.atHour(now.hour + n);
        reckoner.look(now.crates, ship);
        return reckoner.sees[SEES_HEIGHT];
    }

    private boolean canLook(int n) {
        return n >= 0 && n <= MOST_AHEAD && now.hour + n <= LAST_HOUR;
    }

    public int adrift(int what) {
        if (what != 0 && what != 1) {
            return NONE;
        }
        for (int n = 1; n <= MOST_AHEAD && now.hour + n <= LAST_HOUR; n++) {
            int ship = firstUnsafe(now.hour + n);
            if (ship != NONE) {
                return what == 0 ? n : ship;
            }
        }
        return NONE;
    }

    private int firstUnsafe(int hour) {
        reckoner.atHour(hour);
        for (int ship = 0; ship < plan.counts[SHIPS]; ship++) {
            if (now.lies[ship] != NONE && !isSafe(ship)) {
                return ship;
            }
        }
        return NONE;
    }

    private boolean isSafe(int ship) {
        reckoner.look(now.crates, ship);
        return reckoner.safe(ship, now.lies[ship]);
    }

    public int alike(int first, int second, int k) {
        if (!plan.knows(SHIPS, first) || !plan.knows(SHIPS, second) || first == second || k < 0) {
            return NONE;
        }
        int times = 0;
        for (int n = 0; n <= MOST_AHEAD && now.hour + n <= LAST_HOUR; n++) {
            reckoner.atHour(now.hour + n);
            reckoner.look(now.crates, first);
            int height = reckoner.sees[SEES_HEIGHT];
            reckoner.look(now.crates, second);
            if (reckoner.sees[SEES_HEIGHT] == height) {
                if (times == k) {
                    return n;
                }
                times++;
            }
        }
        return NONE;
    }

    public int berthed(int n, int ship) {
        if (!canLook(n) || (ship != NONE && !plan.knows(SHIPS, ship))) {
            return NOTHING;
        }
        int lying = quays.fill(now.crates, now.hour + n);
        return ship == NONE ? lying : quays.chosen[ship];
    }

    // ---- rows of crates

    public int stow(int ship) {
        boolean good = plan.knows(SHIPS, ship) && rows.areWares();
        int tip = good ? rows.putAway(now.crates, ship) : refuse(REFUSED_ROW);
        tape.length = 0;
        return tip;
    }

    public int stowed(int k) {
        return k >= 0 && k < rows.stowedCount ? rows.stowedHolds[k] : NONE;
    }

    public int order(int ship) {
        boolean good = plan.knows(SHIPS, ship) && now.lies[ship] != NONE && rows.areCrates(ship);
        int found = good ? rows.arrange(now, ship) : refuse(REFUSED_ROW);
        tape.length = 0;
        return found;
    }

    public int ordered(int k) {
        return k >= 0 && k < rows.orderedCount ? rows.orderedCrates[k] : NONE;
    }

    public int swaps(int first, int second) {
        if (!plan.knows(SHIPS, first) || !plan.knows(SHIPS, second) || first == second) {
            return NONE;
        }
        return swapper.fewest(now.crates, first, second);
    }

    public int rode(int ship) {
        boolean good = plan.knows(SHIPS, ship) && rows.areHeights();
        int pairs = good ? rows.pairsThatRode() : refuse(REFUSED_ROW);
        tape.length = 0;
        return pairs;
    }

    // ---- acts

    public int lade(int ship, int hold, int ware) {
        return work(ship, hold, ware, LADED);
    }

    public int discharge(int ship, int hold, int ware) {
        return work(ship, hold, ware, DISCHARGED);
    }

    private int work(int ship, int hold, int ware, int what) {
        if (!plan.knowsCell(ship, hold, ware) || now.lies[ship] == NONE) {
            return refuse(REFUSED_CRATE);
        }
        int at = cell(ship, hold, ware);
        int before = now.crates[at];
        int after = what == LADED ? before + 1 : before - 1;
        if (after < 0 || after > MOST_CRATES || !mayWith(ship, at, after)) {
            return refuse(REFUSED_CRATE);
        }
        past.remember(now);
        now.crates[at] = after;
        now.keep(ship, at % CELLS_OF_SHIP, what);
        return after;
    }

    private boolean mayWith(int ship, int at, int many) {
        int before = now.crates[at];
        now.crates[at] = many;
        reckoner.atHour(now.hour);
        reckoner.look(now.crates, ship);
        now.crates[at] = before;
        return reckoner.allows();
    }

    public boolean shift(int ship, int hold, int ware, int to) {
        if (!plan.knowsCell(ship, hold, ware) || !plan.knowsCell(ship, to, ware) || hold == to) {
            return refuses(REFUSED_CRATE);
        }
        int from = cell(ship, hold, ware);
        int into = cell(ship, to, ware);
        if (now.crates[from] < 1 || now.crates[into] >= MOST_CRATES) {
            return refuses(REFUSED_CRATE);
        }
        past.remember(now);
        now.crates[from]--;
        now.crates[into]++;
        return true;
    }

    public boolean moor(int ship, int berth) {
        if (!plan.knows(SHIPS, ship)) {
            return refuses(REFUSED_HOURS);
        }
        boolean good = berth == NONE ? now.lies[ship] != NONE : canTake(ship, berth);
        if (!good) {
            return refuses(REFUSED_HOURS);
        }
        past.remember(now);
        now.lies[ship] = berth;
        return true;
    }

    private boolean canTake(int ship, int berth) {
        if (!plan.knows(BERTHS, berth) || now.shipIn(berth) != NONE) {
            return false;
        }
        reckoner.atHour(now.hour);
        reckoner.look(now.crates, ship);
        return reckoner.safe(ship, berth);
    }

    public int hours(int n) {
        if (!canPass(n)) {
            return refuse(REFUSED_HOURS);
        }
        past.remember(now);
        int loose = 0;
        for (int k = 0; k < n; k++) {
            loose += passHour();
        }
        return loose;
    }

    public int gales(int n) {
        if (!canPass(n)) {
            return refuse(REFUSED_HOURS);
        }
        past.remember(now);
        int lost = 0;
        for (int k = 0; k < n; k++) {
            lost += blow();
            passHour();
        }
        return lost;
    }

    private boolean canPass(int n) {
        return n >= 1 && canLook(n);
    }

    private int passHour() {
        now.hour++;
        reckoner.atHour(now.hour);
        int loose = 0;
        for (int ship = 0; ship < plan.counts[SHIPS]; ship++) {
            if (now.lies[ship] != NONE && !isSafe(ship)) {
                now.lies[ship] = NONE;
                loose++;
            }
        }
        return loose;
    }

    private int blow() {
        int lost = 0;
        for (int ship = 0; ship < plan.counts[SHIPS]; ship++) {
            if (now.lies[ship] == NONE && draw(100) < plan.gale && now.loseFirst(ship)) {
                lost++;
            }
        }
        return lost;
    }

    private int draw(int m) {
        luck = (int) ((1103515245L * luck + 12345L) & 0x7fffffffL);
        return m > 0 ? luck / 64 % m : 0;
    }

    public boolean undo() {
        if (past.count == 0) {
            return refuses(REFUSED_UNDO);
        }
        past.recall(now);
        return true;
    }

    public boolean seed(int seed) {
        if (seed < 0) {
            return refuses(REFUSED_ROW);
        }
        luck = seed;
        return true;
    }

    public int kept(int k, int what) {
        return k >= 0 && k < now.keptCount ? now.keptAt(k, what) : NONE;
    }

    // ---- images, refusals

    public int image() {
        int length = imageLength();
        written[0] = now.hour / 256;
        written[1] = now.hour % 256;
        int at = 2;
        for (int ship = 0; ship < plan.counts[SHIPS]; ship++) {
            written[at] = now.lies[ship] + 1;
            at++;
            for (int k = 0; k < cellsOf(ship); k++) {
                written[at] = now.crates[cellInImage(ship, k)];
                at++;
            }
        }
        int sum = IMAGE_START;
        for (int k = 0; k < length - 1; k++) {
            sum = (IMAGE_FACTOR * sum + written[k]) % IMAGE_MODULUS;
        }
        written[length - 1] = sum;
        writtenLength = length;
        return length;
    }

    private int imageLength() {
        int length = 3;
        for (int ship = 0; ship < plan.counts[SHIPS]; ship++) {
            length += 1 + cellsOf(ship);
        }
        return length;
    }

    private int cellsOf(int ship) {
        return plan.firstOf(SHIPS, ship) * plan.counts[WARES];
    }

    /** An image tells only the wares that there are; the rows in here have room for six. */
    private int cellInImage(int ship, int k) {
        int wares = Math.max(plan.counts[WARES], 1);
        return cell(ship, k / wares, k % wares);
    }

    public int octet(int k) {
        return k >= 0 && k < writtenLength ? written[k] : NONE;
    }

    public boolean on() {
        boolean good = isImage();
        tape.length = 0;
        if (!good) {
            return refuses(REFUSED_ROW);
        }
        now.copy(told);
        past.forget();
        return true;
    }

    private boolean isImage() {
        if (tape.length != imageLength() || !sumFits()) {
            return false;
        }
        told.clear();
        told.hour = tape.pairAt(0);
        int at = 2;
        for (int ship = 0; ship < plan.counts[SHIPS]; ship++) {
            int berth = tape.at(at) - 1;
            if (berth != NONE && (!plan.knows(BERTHS, berth) || told.shipIn(berth) != NONE)) {
                return false;
            }
            told.lies[ship] = berth;
            at++;
            for (int k = 0; k < cellsOf(ship); k++) {
                told.crates[cellInImage(ship, k)] = tape.at(at);
                at++;
            }
        }
        return told.hour <= LAST_HOUR && told.fullestCell() <= MOST_CRATES;
    }

    private boolean sumFits() {
        int sum = IMAGE_START;
        for (int k = 0; k < tape.length - 1; k++) {
            sum = (IMAGE_FACTOR * sum + tape.at(k)) % IMAGE_MODULUS;
        }
        return tape.at(tape.length - 1) == sum;
    }

    public int status(int what) {
        return what >= 0 && what < REFUSALS ? refused[what] : NONE;
    }

    private int refuse(int what) {
        if (what >= 0 && what < REFUSALS) {
            refused[what]++;
        }
        return NONE;
    }

    private boolean refuses(int what) {
        refuse(what);
        return false;
    }

    private static int cell(int ship, int hold, int ware) {
        return ship * CELLS_OF_SHIP + hold * MOST_OF_KIND + ware;
    }

    /** Holds fore tip a ship one way, holds aft the other. */
    private static int side(int hold) {
        return hold % 2 == 0 ? 1 : -1;
    }

    /** Five bits a letter, the first one highest: so a whole name is one number. */
    private static int letterShift(int k) {
        return 5 * (MOST_LETTERS - 1 - k);
    }

    private static final class Tape {
        final int[] bytes = new int[MOST_BYTES];
        int length;

        void add(int four) {
            for (int shift = 24; shift >= 0 && length < MOST_BYTES; shift -= 8) {
                bytes[length] = (four >> shift) & 255;
                length++;
            }
        }

        int at(int k) {
            return k >= 0 && k < length ? bytes[k] : NONE;
        }

        int pairAt(int k) {
            return at(k) * 256 + at(k + 1);
        }
    }

    /** What a text tells of a harbour that no act changes. */
    private static final class Plan {
        final int[] counts = new int[KINDS];
        final int[] names = new int[KINDS * MOST_OF_KIND];
        final int[] firsts = new int[KINDS * MOST_OF_KIND];
        final int[] seconds = new int[KINDS * MOST_OF_KIND];
        final int[] steps = new int[MOST_BYTES];
        final int[] starts = new int[FORMULAS];
        final int[] ends = new int[FORMULAS];
        int stepCount;
        int gale;
        int statements;

        void clear() {
            for (int kind = 0; kind < KINDS; kind++) {
                counts[kind] = 0;
            }
            for (int k = 0; k < FORMULAS; k++) {
                starts[k] = 0;
                ends[k] = 0;
            }
            stepCount = 0;
            gale = 0;
            statements = 0;
        }

        void copy(Plan other) {
            System.arraycopy(other.counts, 0, counts, 0, KINDS);
            System.arraycopy(other.names, 0, names, 0, KINDS * MOST_OF_KIND);
            System.arraycopy(other.firsts, 0, firsts, 0, KINDS * MOST_OF_KIND);
            System.arraycopy(other.seconds, 0, seconds, 0, KINDS * MOST_OF_KIND);
            System.arraycopy(other.steps, 0, steps, 0, other.stepCount);
            System.arraycopy(other.starts, 0, starts, 0, FORMULAS);
            System.arraycopy(other.ends, 0, ends, 0, FORMULAS);
            gale = other.gale;
            statements = other.statements;
        }

        boolean knows(int kind, int which) {
            return kind >= 0 && kind < KINDS && which >= 0 && which < counts[kind];
        }

        boolean knowsCell(int ship, int hold, int ware) {
            return knows(SHIPS, ship) && hold >= 0 && hold < firstOf(SHIPS, ship) && knows(WARES, ware);
        }

        int firstOf(int kind, int which) {
            return knows(kind, which) ? firsts[kind * MOST_OF_KIND + which] : 0;
        }

        int secondOf(int kind, int which) {
            return knows(kind, which) ? seconds[kind * MOST_OF_KIND + which] : 0;
        }

        /** How much heavier a crate makes its hold. */
        int net(int ware) {
            return firstOf(WARES, ware) - secondOf(WARES, ware);
        }

        int find(int kind, int name) {
            for (int which = 0; which < counts[kind]; which++) {
                if (names[kind * MOST_OF_KIND + which] == name) {
                    return which;
                }
            }
            return NONE;
        }

        void add(int kind, int name, int first, int second) {
            int which = counts[kind];
            if (which < MOST_OF_KIND) {
                names[kind * MOST_OF_KIND + which] = name;
                firsts[kind * MOST_OF_KIND + which] = first;
                seconds[kind * MOST_OF_KIND + which] = second;
                counts[kind]++;
            }
        }

        void emit(int step) {
            if (stepCount < MOST_BYTES) {
                steps[stepCount] = step;
                stepCount++;
            }
        }

        boolean tells(int formula) {
            return ends[formula] > starts[formula];
        }
    }

    /** All that acts change and undo brings back. */
    private static final class Standing {
        static final int SIZE = 3 + MOST_OF_KIND + CELLS + MOST_KEPT;

        final int[] lies = new int[MOST_OF_KIND];
        final int[] crates = new int[CELLS];
        final int[] keptRing = new int[MOST_KEPT];
        int keptFrom;
        int keptCount;
        int hour;

        Standing() {
            clear();
        }

        void clear() {
            hour = 0;
            keptFrom = 0;
            keptCount = 0;
            for (int ship = 0; ship < MOST_OF_KIND; ship++) {
                lies[ship] = NONE;
            }
            for (int k = 0; k < CELLS; k++) {
                crates[k] = 0;
            }
        }

        void copy(Standing other) {
            hour = other.hour;
            keptFrom = 0;
            keptCount = 0;
            System.arraycopy(other.lies, 0, lies, 0, MOST_OF_KIND);
            System.arraycopy(other.crates, 0, crates, 0, CELLS);
        }

        void writeTo(int[] row, int at) {
            row[at] = hour;
            row[at + 1] = keptFrom;
            row[at + 2] = keptCount;
            System.arraycopy(lies, 0, row, at + 3, MOST_OF_KIND);
            System.arraycopy(crates, 0, row, at + 3 + MOST_OF_KIND, CELLS);
            System.arraycopy(keptRing, 0, row, at + 3 + MOST_OF_KIND + CELLS, MOST_KEPT);
        }

        void readFrom(int[] row, int at) {
            hour = row[at];
            keptFrom = row[at + 1];
            keptCount = row[at + 2];
            System.arraycopy(row, at + 3, lies, 0, MOST_OF_KIND);
            System.arraycopy(row, at + 3 + MOST_OF_KIND, crates, 0, CELLS);
            System.arraycopy(row, at + 3 + MOST_OF_KIND + CELLS, keptRing, 0, MOST_KEPT);
        }

        int shipIn(int berth) {
            for (int ship = 0; ship < MOST_OF_KIND; ship++) {
                if (lies[ship] == berth) {
                    return ship;
                }
            }
            return NONE;
        }

        int lying() {
            int many = 0;
            for (int ship = 0; ship < MOST_OF_KIND; ship++) {
                if (lies[ship] != NONE) {
                    many++;
                }
            }
            return many;
        }

        int allCrates() {
            int many = 0;
            for (int k = 0; k < CELLS; k++) {
                many += crates[k];
            }
            return many;
        }

        int cratesOf(int ware) {
            int many = 0;
            for (int k = Math.max(ware, 0); k < CELLS; k += MOST_OF_KIND) {
                many += crates[k];
            }
            return many;
        }

        int fullestCell() {
            int most = 0;
            for (int k = 0; k < CELLS; k++) {
                most = Math.max(most, crates[k]);
            }
            return most;
        }

        boolean loseFirst(int ship) {
            for (int k = 0; k < CELLS_OF_SHIP; k++) {
                if (crates[ship * CELLS_OF_SHIP + k] > 0) {
                    crates[ship * CELLS_OF_SHIP + k]--;
                    keep(ship, k, LOST);
                    return true;
                }
            }
            return false;
        }

        /** The whole row is packed into one number, so that an undo has less to bring back. */
        void keep(int ship, int cellOfShip, int what) {
            int at = (keptFrom + keptCount) % MOST_KEPT;
            keptRing[at] = ((hour * MOST_OF_KIND + ship) * CELLS_OF_SHIP + cellOfShip) * 3 + what;
            if (keptCount < MOST_KEPT) {
                keptCount++;
            } else {
                keptFrom = (keptFrom + 1) % MOST_KEPT;
            }
        }

        int keptAt(int k, int what) {
            int packed = keptRing[(keptFrom + k) % MOST_KEPT];
            int cellOfShip = packed / 3 % CELLS_OF_SHIP;
            switch (what) {
                case 0: return packed / 3 / CELLS_OF_SHIP / MOST_OF_KIND;
                case 1: return packed / 3 / CELLS_OF_SHIP % MOST_OF_KIND;
                case 2: return cellOfShip / MOST_OF_KIND;
                case 3: return cellOfShip % MOST_OF_KIND;
                case 4: return packed % 3;
                default: return NONE;
            }
        }
    }

    /** How all stood ahead of each of the last acts. */
    private static final class Past {
        final int[] ring = new int[MOST_ACTS * Standing.SIZE];
        int from;
        int count;

        void forget() {
            count = 0;
        }

        void remember(Standing now) {
            now.writeTo(ring, (from + count) % MOST_ACTS * Standing.SIZE);
            if (count < MOST_ACTS) {
                count++;
            } else {
                from = (from + 1) % MOST_ACTS;
            }
        }

        void recall(Standing now) {
            if (count > 0) {
                count--;
                now.readFrom(ring, (from + count) % MOST_ACTS * Standing.SIZE);
            }
        }
    }

    /**
     * The tape as words, numbers and signs, one at a time. The next one is always read already, but a
     * fault in it is told only when the grammar asks for it: what stands ahead of it goes first.
     */
    private static final class Lexer {
        static final int END = 0;
        static final int WORD = 1;
        static final int NUMBER = 2;
        static final int SIGN = 3;
        static final int BAD = 4;

        final Tape tape;
        final int[] own = new int[OWN_COUNT];
        int position;
        int kind;
        int start;
        int spot;
        int value;
        int word;
        int takenStart;
        int takenValue;
        int fault;
        int place;

        Lexer(Tape tape) {
            this.tape = tape;
            place = NONE;
            int letters = 0;
            int which = 0;
            for (int k = 0; k < OWN_WORDS.length() && which < OWN_COUNT; k++) {
                char c = OWN_WORDS.charAt(k);
                if (c == ' ') {
                    which++;
                    letters = 0;
                } else {
                    own[which] |= (c - 'a' + 1) << letterShift(letters);
                    letters++;
                }
            }
        }

        void rewind() {
            position = 0;
            start = 0;
            value = 0;
            fault = 0;
            place = NONE;
            take();
        }

        void take() {
            takenStart = start;
            takenValue = value;
            while (position < tape.length && (tape.bytes[position] == ' ' || tape.bytes[position] == '\n')) {
                position++;
            }
            start = position;
            spot = position;
            value = 0;
            word = NONE;
            int c = position < tape.length ? tape.bytes[position] : NONE;
            int before = position > 0 && position <= tape.length ? tape.bytes[position - 1] : NONE;
            if (c == NONE) {
                kind = END;
            } else if (isLetter(c)) {
                kind = isDigit(before) ? BAD : WORD;
                readWord();
            } else if (isDigit(c)) {
                kind = isLetter(before) ? BAD : NUMBER;
                readNumber();
            } else {
                kind = SIGN;
                value = c;
                position++;
            }
        }

        private static boolean isLetter(int c) {
            return c >= 'a' && c <= 'z';
        }

        private static boolean isDigit(int c) {
            return c >= '0' && c <= '9';
        }

        private void readWord() {
            for (int n = 0; n <= MOST_LETTERS && kind == WORD && position < tape.length; n++) {
                int c = tape.bytes[position];
                if (c < 'a' || c > 'z') {
                    break;
                }
                if (n == MOST_LETTERS) {
                    kind = BAD;
                    spot = position;
                } else {
                    value |= (c - 'a' + 1) << (5 * (MOST_LETTERS - 1 - n));
                    position++;
                }
            }
            for (int k = 0; k < OWN_COUNT && kind == WORD; k++) {
                if (own[k] == value) {
                    word = k;
                }
            }
        }

        private void readNumber() {
            for (int n = 0; n <= MOST_DIGITS && kind == NUMBER && position < tape.length; n++) {
                int c = tape.bytes[position];
                if (c < '0' || c > '9') {
                    break;
                }
                if (n == MOST_DIGITS) {
                    kind = BAD;
                    spot = position;
                } else {
                    value = value * 10 + c - '0';
                    position++;
                }
            }
        }

        /** Nothing fits a bad token, so that all reading ends soon behind the first fault. */
        void fail(int what, int where) {
            if (fault == 0) {
                fault = what;
                place = where;
            }
            kind = BAD;
        }

        void wrong() {
            fail(FAULT_GRAMMAR, spot);
        }

        boolean takeSign(int sign) {
            boolean fits = kind == SIGN && value == sign;
            if (fits) {
                take();
            }
            return fits;
        }

        boolean takeWord(int which) {
            boolean fits = kind == WORD && word == which;
            if (fits) {
                take();
            }
            return fits;
        }

        void needSign(int sign) {
            if (kind == SIGN && value == sign) {
                take();
            } else {
                wrong();
            }
        }

        void needWord(int which) {
            if (kind == WORD && word == which) {
                take();
            } else {
                wrong();
            }
        }

        int needNumber(int least, int most) {
            if (kind != NUMBER) {
                wrong();
                return 0;
            }
            if (value < least || value > most) {
                fail(FAULT_NUMBER, start);
                return 0;
            }
            take();
            return takenValue;
        }

        int needName() {
            if (kind != WORD || word != NONE) {
                fail(FAULT_GRAMMAR, spot);
                return 0;
            }
            take();
            return takenValue;
        }
    }

    /** Reads a harbour's text into a draft, so that a fault leaves the harbour as it is. */
    private static final class TextReader {
        final Lexer scan;
        final Plan draft = new Plan();
        final Standing first = new Standing();
        final FormulaReader formulas;

        TextReader(Tape tape) {
            scan = new Lexer(tape);
            formulas = new FormulaReader(scan, draft);
        }

        boolean read() {
            draft.clear();
            first.clear();
            scan.rewind();
            for (int n = 0; n <= MOST_STATEMENTS && scan.fault == 0 && scan.kind != Lexer.END; n++) {
                if (n == MOST_STATEMENTS) {
                    scan.fail(FAULT_MANY, scan.start);
                } else {
                    readStatement();
                    scan.needSign(';');
                    draft.statements++;
                }
            }
            return scan.fault == 0;
        }

        private void readStatement() {
            switch (scan.word) {
                case WORD_WARE: readThing(WARES); break;
                case WORD_SHIP: readThing(SHIPS); break;
                case WORD_BERTH: readThing(BERTHS); break;
                case WORD_LOADS: readLoads(); break;
                case WORD_LIES: readLies(); break;
                case WORD_WATER: formulas.read(FORMULA_WATER); break;
                case WORD_MOON: formulas.read(FORMULA_MOON); break;
                case WORD_RIDES: formulas.read(FORMULA_RIDES); break;
                case WORD_MAY: formulas.read(FORMULA_MAY); break;
                case WORD_GALE: readGale(); break;
                default: scan.wrong(); break;
            }
        }

        private void readThing(int kind) {
            if (draft.counts[kind] >= MOST_OF_KIND) {
                scan.fail(FAULT_MANY, scan.start);
                return;
            }
            scan.take();
            int name = scan.needName();
            if (isGiven(name)) {
                scan.fail(FAULT_GIVEN, scan.takenStart);
            }
            scan.needWord(FIRST_WORD[kind]);
            int one = scan.needNumber(FIRST_LEAST[kind], FIRST_MOST[kind]);
            scan.needWord(SECOND_WORD[kind]);
            int two = scan.needNumber(kind == BERTHS ? one : 0, SECOND_MOST[kind]);
            if (scan.fault == 0) {
                draft.add(kind, name, one, two);
            }
        }

        private boolean isGiven(int name) {
            return draft.find(WARES, name) != NONE || draft.find(SHIPS, name) != NONE || draft.find(BERTHS, name) != NONE;
        }

        private int readKnown(int kind) {
            int which = draft.find(kind, scan.needName());
            if (which == NONE) {
                scan.fail(FAULT_NAME, scan.takenStart);
            }
            return which;
        }

        private void readLoads() {
            scan.take();
            int ship = readKnown(SHIPS);
            int hold = scan.needNumber(0, draft.firstOf(SHIPS, ship) - 1);
            int ware = readKnown(WARES);
            int many = scan.needNumber(0, MOST_CRATES);
            if (scan.fault == 0 && draft.knowsCell(ship, hold, ware)) {
                first.crates[cell(ship, hold, ware)] = many;
            }
        }

        private void readLies() {
            scan.take();
            int ship = readKnown(SHIPS);
            if (ship != NONE && first.lies[ship] != NONE) {
                scan.fail(FAULT_NAME, scan.takenStart);
            }
            int berth = readKnown(BERTHS);
            if (berth != NONE && first.shipIn(berth) != NONE) {
                scan.fail(FAULT_NAME, scan.takenStart);
            }
            if (scan.fault == 0 && ship != NONE) {
                first.lies[ship] = berth;
            }
        }

        private void readGale() {
            scan.take();
            int most = scan.needNumber(0, MOST_GALE);
            if (scan.fault == 0) {
                draft.gale = most;
            }
        }
    }

    /** Reads the sums and tests of the small language into steps; depth is how many ( [ not are open. */
    private static final class FormulaReader {
        final Lexer scan;
        final Plan draft;
        int seen;

        FormulaReader(Lexer scan, Plan draft) {
            this.scan = scan;
            this.draft = draft;
        }

        void read(int formula) {
            if (draft.tells(formula)) {
                scan.fail(FAULT_MANY, scan.start);
                return;
            }
            scan.take();
            seen = SEEN_IN[formula];
            draft.starts[formula] = draft.stepCount;
            if (formula == FORMULA_MAY) {
                readTest(0);
            } else {
                readSum(0);
            }
            draft.ends[formula] = draft.stepCount;
        }

        private boolean opens(int depth) {
            boolean fits = depth < MOST_OPEN;
            if (!fits) {
                scan.fail(FAULT_OPEN, scan.takenStart);
            }
            return fits;
        }

        private void readTest(int depth) {
            readBoth(depth);
            for (int n = 0; n < MOST_BYTES && scan.takeWord(WORD_OR); n++) {
                readBoth(depth);
                draft.emit(STEP_OR);
            }
        }

        private void readBoth(int depth) {
            readFact(depth);
            for (int n = 0; n < MOST_BYTES && scan.takeWord(WORD_AND); n++) {
                readFact(depth);
                draft.emit(STEP_AND);
            }
        }

        private void readFact(int depth) {
            if (scan.takeWord(WORD_NOT)) {
                if (opens(depth)) {
                    readFact(depth + 1);
                }
                draft.emit(STEP_NOT);
            } else if (scan.takeSign('[')) {
                if (opens(depth)) {
                    readTest(depth + 1);
                }
                scan.needSign(']');
            } else if (scan.takeWord(WORD_ALL)) {
                draft.emit(1);
            } else {
                readSum(depth);
                int step = readComparison();
                readSum(depth);
                draft.emit(step);
            }
        }

        private int readComparison() {
            int sign = scan.kind == Lexer.SIGN ? scan.value : NONE;
            if (sign == '<' || sign == '>' || sign == '=') {
                scan.take();
            } else {
                scan.wrong();
            }
            return sign == '<' ? STEP_LESS : sign == '>' ? STEP_MORE : STEP_SAME;
        }

        private void readSum(int depth) {
            readProduct(depth);
            boolean more = true;
            for (int n = 0; n < MOST_BYTES && more; n++) {
                if (scan.takeSign('+')) {
                    readProduct(depth);
                    draft.emit(STEP_PLUS);
                } else if (scan.takeSign('-')) {
                    readProduct(depth);
                    draft.emit(STEP_MINUS);
                } else {
                    more = false;
                }
            }
        }

        private void readProduct(int depth) {
            readPart(depth);
            boolean more = true;
            for (int n = 0; n < MOST_BYTES && more; n++) {
                if (scan.takeSign('*')) {
                    readPart(depth);
                    draft.emit(STEP_TIMES);
                } else if (scan.takeSign('/')) {
                    readPart(depth);
                    draft.emit(STEP_BY);
                } else if (scan.takeSign('%')) {
                    readPart(depth);
                    draft.emit(STEP_REST);
                } else {
                    more = false;
                }
            }
        }

        private void readPart(int depth) {
            if (scan.kind == Lexer.NUMBER) {
                scan.take();
                draft.emit(scan.takenValue);
            } else if (scan.takeSign('(')) {
                if (opens(depth)) {
                    readSum(depth + 1);
                }
                scan.needSign(')');
            } else if (scan.takeWord(WORD_MIN)) {
                readPair(depth, STEP_MIN);
            } else if (scan.takeWord(WORD_MAX)) {
                readPair(depth, STEP_MAX);
            } else if (scan.takeWord(WORD_IF)) {
                readChoice(depth);
            } else {
                readSeen();
            }
        }

        private void readPair(int depth, int step) {
            scan.needSign('(');
            if (scan.fault == 0 && opens(depth)) {
                readSum(depth + 1);
                scan.needSign(',');
                readSum(depth + 1);
                scan.needSign(')');
                draft.emit(step);
            }
        }

        private void readChoice(int depth) {
            scan.needSign('(');
            if (scan.fault == 0 && opens(depth)) {
                readTest(depth + 1);
                scan.needSign(',');
                readSum(depth + 1);
                scan.needSign(',');
                readSum(depth + 1);
                scan.needSign(')');
                draft.emit(STEP_IF);
            }
        }

        private void readSeen() {
            for (int k = 0; k < SIGHTS && scan.kind == Lexer.WORD; k++) {
                if (((seen >> k) & 1) == 1 && scan.word == SEEN_WORD[k]) {
                    scan.take();
                    draft.emit(-1 - k);
                    return;
                }
            }
            scan.wrong();
        }
    }

    /** Reckons the formulas: an hour and a ship are looked at first, then their numbers stand in sees. */
    private static final class Reckoner {
        final Plan plan;
        final int[] sees = new int[SIGHTS];
        final int[] stack = new int[STACK];

        Reckoner(Plan plan) {
            this.plan = plan;
        }

        void atHour(int hour) {
            sees[SEES_HOUR] = hour;
            sees[SEES_WATER] = plan.tells(FORMULA_WATER) ? height(reckon(FORMULA_WATER)) : 100;
            sees[SEES_MOON] = plan.tells(FORMULA_MOON) ? height(reckon(FORMULA_MOON)) : 0;
        }

        int waterAt(int hour) {
            atHour(hour);
            return sees[SEES_WATER];
        }

        int moonAt(int hour) {
            atHour(hour);
            return sees[SEES_MOON];
        }

        void look(int[] crates, int ship) {
            int weight = 0;
            int lift = 0;
            int count = 0;
            int tip = 0;
            for (int hold = 0; hold < plan.firstOf(SHIPS, ship); hold++) {
                for (int ware = 0; ware < plan.counts[WARES]; ware++) {
                    int many = crates[cell(ship, hold, ware)];
                    if (many > 0) {
                        weight += many * plan.firstOf(WARES, ware);
                        lift += many * plan.secondOf(WARES, ware);
                        tip += side(hold) * many * plan.net(ware);
                        count += many;
                    }
                }
            }
            lookAt(weight, lift, tip, count);
        }

        void lookAt(int weight, int lift, int tip, int count) {
            sees[SEES_WEIGHT] = weight;
            sees[SEES_LIFT] = lift;
            sees[SEES_TIP] = tip;
            sees[SEES_COUNT] = count;
            if (plan.tells(FORMULA_RIDES)) {
                sees[SEES_HEIGHT] = height(reckon(FORMULA_RIDES));
            } else {
                sees[SEES_HEIGHT] = height(sees[SEES_WATER] + lift * sees[SEES_MOON] / 100 - weight);
            }
        }

        int tipOf(int[] crates, int ship) {
            int tip = 0;
            for (int hold = 0; hold < plan.firstOf(SHIPS, ship); hold++) {
                for (int ware = 0; ware < plan.counts[WARES]; ware++) {
                    tip += side(hold) * crates[cell(ship, hold, ware)] * plan.net(ware);
                }
            }
            return tip;
        }

        boolean level(int ship) {
            return Math.abs(sees[SEES_TIP]) <= plan.secondOf(SHIPS, ship);
        }

        boolean safe(int ship, int berth) {
            int height = sees[SEES_HEIGHT];
            return level(ship) && height >= plan.firstOf(BERTHS, berth) && height <= plan.secondOf(BERTHS, berth);
        }

        boolean allows() {
            return !plan.tells(FORMULA_MAY) || reckon(FORMULA_MAY) != 0;
        }

        private static int height(int sum) {
            return Math.min(Math.max(sum, 0), HIGHEST);
        }

        private int reckon(int formula) {
            int top = 0;
            for (int k = plan.starts[formula]; k < plan.ends[formula]; k++) {
                int step = plan.steps[k];
                if (step > STEP_NOT) {
                    if (top < STACK) {
                        stack[top] = step >= 0 ? step : sees[-1 - step];
                        top++;
                    }
                } else if (step == STEP_NOT) {
                    if (top >= 1) {
                        stack[top - 1] = 1 - stack[top - 1];
                    }
                } else if (step == STEP_IF) {
                    if (top >= 3) {
                        stack[top - 3] = stack[top - 3] != 0 ? stack[top - 2] : stack[top - 1];
                        top -= 2;
                    }
                } else if (top >= 2) {
                    stack[top - 2] = join(step, stack[top - 2], stack[top - 1]);
                    top--;
                }
            }
            return top > 0 ? stack[0] : 0;
        }

        private static int join(int step, int a, int b) {
            long sum = 0;
            switch (step) {
                case STEP_OR: sum = a | b; break;
                case STEP_AND: sum = a & b; break;
                case STEP_LESS: sum = a < b ? 1 : 0; break;
                case STEP_MORE: sum = a > b ? 1 : 0; break;
                case STEP_SAME: sum = a == b ? 1 : 0; break;
                case STEP_PLUS: sum = (long) a + b; break;
                case STEP_MINUS: sum = (long) a - b; break;
                case STEP_TIMES: sum = (long) a * b; break;
                case STEP_BY: sum = b == 0 ? 0 : Math.floorDiv(a, b); break;
                case STEP_REST: sum = b == 0 ? 0 : Math.floorMod(a, b); break;
                case STEP_MIN: sum = Math.min(a, b); break;
                case STEP_MAX: sum = Math.max(a, b); break;
                default: break;
            }
            return sum > MILLION ? MILLION : sum < -MILLION ? -MILLION : (int) sum;
        }
    }

    /** Which ships lie in which berths so that most lie. */
    private static final class Quays {
        static final int SETS = 64;

        final Plan plan;
        final Reckoner reckoner;
        final int[] chosen = new int[MOST_OF_KIND];
        final int[] fits = new int[MOST_OF_KIND];
        // How many of a ship and those behind it can lie, by the set of berths that are taken.
        final int[] most = new int[(MOST_OF_KIND + 1) * SETS];

        Quays(Plan plan, Reckoner reckoner) {
            this.plan = plan;
            this.reckoner = reckoner;
        }

        int fill(int[] crates, int hour) {
            reckoner.atHour(hour);
            int ships = plan.counts[SHIPS];
            for (int ship = 0; ship < ships; ship++) {
                reckoner.look(crates, ship);
                fits[ship] = berthsThatFit(ship);
            }
            for (int taken = 0; taken < SETS; taken++) {
                most[ships * SETS + taken] = 0;
            }
            for (int ship = ships - 1; ship >= 0; ship--) {
                for (int taken = 0; taken < SETS; taken++) {
                    most[ship * SETS + taken] = mostFrom(ship, taken);
                }
            }
            int taken = 0;
            for (int ship = 0; ship < ships; ship++) {
                chosen[ship] = firstBest(ship, taken);
                taken |= chosen[ship] == NONE ? 0 : 1 << chosen[ship];
            }
            return most[0];
        }

        private int berthsThatFit(int ship) {
            int bits = 0;
            for (int berth = 0; berth < plan.counts[BERTHS]; berth++) {
                if (reckoner.safe(ship, berth)) {
                    bits |= 1 << berth;
                }
            }
            return bits;
        }

        private int mostFrom(int ship, int taken) {
            int behind = (ship + 1) * SETS;
            int best = most[behind + taken];
            int free = fits[ship] & ~taken;
            for (int berth = 0; berth < MOST_OF_KIND; berth++) {
                if (((free >> berth) & 1) == 1) {
                    best = Math.max(best, 1 + most[behind + (taken | 1 << berth)]);
                }
            }
            return best;
        }

        private int firstBest(int ship, int taken) {
            int behind = (ship + 1) * SETS;
            int free = fits[ship] & ~taken;
            for (int berth = 0; berth < MOST_OF_KIND; berth++) {
                if (((free >> berth) & 1) == 1 && 1 + most[behind + (taken | 1 << berth)] == most[ship * SETS + taken]) {
                    return berth;
                }
            }
            return NONE;
        }
    }

    /** The rows that the tape tells: crates to be stowed, crates to be ordered, heights that a ship rode at. */
    private static final class Rows {
        static final int SETS = 64;

        final Plan plan;
        final Reckoner reckoner;
        final Tape tape;
        final int[] trial = new int[CELLS];
        final int[] stowedHolds = new int[MOST_IN_ROW];
        final int[] triedHolds = new int[MOST_IN_ROW];
        final int[] orderedCrates = new int[MOST_IN_ROW];
        // Whether the crates in a set can stand laded, and the others be laded behind them.
        final boolean[] leads = new boolean[SETS];
        final int[] waters = new int[MOST_RODE];
        final int[] moons = new int[MOST_RODE];
        int stowedCount;
        int orderedCount;
        int leastTip;

        Rows(Plan plan, Reckoner reckoner, Tape tape) {
            this.plan = plan;
            this.reckoner = reckoner;
            this.tape = tape;
        }

        void forget() {
            stowedCount = 0;
            orderedCount = 0;
        }

        boolean areWares() {
            boolean good = tape.length >= 1 && tape.length <= MOST_IN_ROW;
            for (int k = 0; good && k < tape.length; k++) {
                good = plan.knows(WARES, tape.at(k));
            }
            return good;
        }

        int putAway(int[] crates, int ship) {
            System.arraycopy(crates, 0, trial, 0, CELLS);
            leastTip = NONE;
            tryHolds(ship, 0, reckoner.tipOf(trial, ship));
            stowedCount = leastTip == NONE ? 0 : tape.length;
            return leastTip;
        }

        private void tryHolds(int ship, int k, int tip) {
            if (k >= tape.length || k >= MOST_IN_ROW) {
                keepIfLess(Math.abs(tip));
                return;
            }
            int ware = tape.at(k);
            for (int hold = 0; hold < plan.firstOf(SHIPS, ship); hold++) {
                int at = cell(ship, hold, ware);
                if (trial[at] < MOST_CRATES) {
                    trial[at]++;
                    triedHolds[k] = hold;
                    tryHolds(ship, k + 1, tip + side(hold) * plan.net(ware));
                    trial[at]--;
                }
            }
        }

        private void keepIfLess(int tip) {
            if (leastTip == NONE || tip < leastTip) {
                leastTip = tip;
                System.arraycopy(triedHolds, 0, stowedHolds, 0, MOST_IN_ROW);
            }
        }

        boolean areCrates(int ship) {
            boolean good = tape.length >= 2 && tape.length <= 2 * MOST_IN_ROW && tape.length % 2 == 0;
            for (int k = 0; good && k < tape.length; k += 2) {
                good = plan.knowsCell(ship, tape.at(k), tape.at(k + 1));
            }
            return good;
        }

        int arrange(Standing now, int ship) {
            System.arraycopy(now.crates, 0, trial, 0, CELLS);
            reckoner.atHour(now.hour);
            int many = tape.length / 2;
            int full = (1 << many) - 1;
            for (int laded = full; laded >= 0; laded--) {
                boolean onward = laded == full || firstLeading(laded, many) != NONE;
                leads[laded] = onward && (laded == 0 || stands(laded, ship, now.lies[ship]));
            }
            orderedCount = leads[0] ? many : 0;
            int laded = 0;
            for (int k = 0; k < orderedCount; k++) {
                orderedCrates[k] = firstLeading(laded, many);
                laded |= 1 << orderedCrates[k];
            }
            return leads[0] ? 1 : 0;
        }

        private int firstLeading(int laded, int many) {
            for (int k = 0; k < many; k++) {
                if (((laded >> k) & 1) == 0 && leads[laded | 1 << k]) {
                    return k;
                }
            }
            return NONE;
        }

        private boolean stands(int laded, int ship, int berth) {
            boolean room = true;
            for (int k = 0; 2 * k < tape.length; k++) {
                int at = cell(ship, tape.at(2 * k), tape.at(2 * k + 1));
                trial[at] += (laded >> k) & 1;
                room = room && trial[at] <= MOST_CRATES;
            }
            reckoner.look(trial, ship);
            for (int k = 0; 2 * k < tape.length; k++) {
                trial[cell(ship, tape.at(2 * k), tape.at(2 * k + 1))] -= (laded >> k) & 1;
            }
            return room && reckoner.safe(ship, berth) && reckoner.allows();
        }

        boolean areHeights() {
            boolean good = tape.length >= 4 && tape.length <= 4 * MOST_RODE && tape.length % 4 == 0;
            for (int k = 0; good && k < tape.length; k += 4) {
                good = tape.pairAt(k) <= LAST_HOUR && tape.pairAt(k + 2) <= HIGHEST;
            }
            return good;
        }

        int pairsThatRode() {
            for (int k = 0; 4 * k < tape.length; k++) {
                reckoner.atHour(tape.pairAt(4 * k));
                waters[k] = reckoner.sees[SEES_WATER];
                moons[k] = reckoner.sees[SEES_MOON];
            }
            int pairs = 0;
            for (int ware = 0; ware < plan.counts[WARES]; ware++) {
                for (int many = 1; many <= MOST_CRATES; many++) {
                    if (rodeSo(ware, many)) {
                        pairs++;
                    }
                }
            }
            return pairs;
        }

        private boolean rodeSo(int ware, int many) {
            int weight = many * plan.firstOf(WARES, ware);
            int lift = many * plan.secondOf(WARES, ware);
            for (int k = 0; 4 * k < tape.length; k++) {
                reckoner.sees[SEES_HOUR] = tape.pairAt(4 * k);
                reckoner.sees[SEES_WATER] = waters[k];
                reckoner.sees[SEES_MOON] = moons[k];
                reckoner.lookAt(weight, lift, weight - lift, many);
                if (reckoner.sees[SEES_HEIGHT] != tape.pairAt(4 * k + 2)) {
                    return false;
                }
            }
            return true;
        }
    }

    /** The fewest swaps of crates between two ships that level both. */
    private static final class Swapper {
        final Plan plan;
        final Reckoner reckoner;
        final int[] trial = new int[CELLS];
        final int[] nets = new int[MOST_OF_KIND];
        int spread;
        int one;
        int other;
        int oneTrims;
        int otherTrims;

        Swapper(Plan plan, Reckoner reckoner) {
            this.plan = plan;
            this.reckoner = reckoner;
        }

        int fewest(int[] crates, int first, int second) {
            System.arraycopy(crates, 0, trial, 0, CELLS);
            one = first;
            other = second;
            oneTrims = plan.secondOf(SHIPS, first);
            otherTrims = plan.secondOf(SHIPS, second);
            measureWares();
            int oneTip = reckoner.tipOf(trial, first);
            int otherTip = reckoner.tipOf(trial, second);
            if (Math.abs(oneTip) <= oneTrims && Math.abs(otherTip) <= otherTrims) {
                return 0;
            }
            if (oneSwapLevels(oneTip, otherTip)) {
                return 1;
            }
            return isNear(oneTip, otherTip, 2) && twoSwapsLevel(oneTip, otherTip) ? 2 : NONE;
        }

        private void measureWares() {
            int least = 0;
            int most = 0;
            for (int ware = 0; ware < plan.counts[WARES]; ware++) {
                nets[ware] = plan.net(ware);
                least = ware == 0 ? nets[ware] : Math.min(least, nets[ware]);
                most = ware == 0 ? nets[ware] : Math.max(most, nets[ware]);
            }
            spread = most - least;
        }

        /** A swap moves a tip by the spread of the wares at most: what is farther off need not be tried. */
        private boolean isNear(int oneTip, int otherTip, int swapsLeft) {
            int reach = swapsLeft * spread;
            return Math.abs(oneTip) <= oneTrims + reach && Math.abs(otherTip) <= otherTrims + reach;
        }

        /** A tip tells holds only by their sides, so sides and wares are all that need be tried. */
        private boolean oneSwapLevels(int oneTip, int otherTip) {
            int wares = isNear(oneTip, otherTip, 1) ? plan.counts[WARES] : 0;
            for (int k = 0; k < wares * wares; k++) {
                int gives = k / wares;
                int takes = k % wares;
                int change = nets[takes] - nets[gives];
                for (int end = -1; gives != takes && end <= 1; end += 2) {
                    if (Math.abs(oneTip + end * change) <= oneTrims && canSwap(one, end, gives, takes)
                            && otherLevels(otherTip, change, gives, takes)) {
                        return true;
                    }
                }
            }
            return false;
        }

        private boolean otherLevels(int otherTip, int change, int gets, int gives) {
            for (int end = -1; end <= 1; end += 2) {
                if (Math.abs(otherTip - end * change) <= otherTrims && canSwap(other, end, gives, gets)) {
                    return true;
                }
            }
            return false;
        }

        /** Holds that a ship has not are empty, so they give nothing. */
        private boolean canSwap(int ship, int end, int gives, int gets) {
            for (int hold = end > 0 ? 0 : 1; hold < MOST_HOLDS; hold += 2) {
                if (trial[cell(ship, hold, gives)] > 0 && trial[cell(ship, hold, gets)] < MOST_CRATES) {
                    return true;
                }
            }
            return false;
        }

        private boolean twoSwapsLevel(int oneTip, int otherTip) {
            for (int k = 0; k < CELLS_OF_SHIP; k++) {
                for (int j = 0; trial[one * CELLS_OF_SHIP + k] > 0 && j < CELLS_OF_SHIP; j++) {
                    if (trial[other * CELLS_OF_SHIP + j] > 0 && levelsBehind(k, j, oneTip, otherTip)) {
                        return true;
                    }
                }
            }
            return false;
        }

        /** Whether one swap more is enough, once cell k of one ship and cell j of the other have swapped. */
        private boolean levelsBehind(int k, int j, int oneTip, int otherTip) {
            int gives = k % MOST_OF_KIND;
            int takes = j % MOST_OF_KIND;
            int oneGets = one * CELLS_OF_SHIP + k - gives + takes;
            int otherGets = other * CELLS_OF_SHIP + j - takes + gives;
            if (gives == takes || trial[oneGets] >= MOST_CRATES || trial[otherGets] >= MOST_CRATES) {
                return false;
            }
            int change = nets[takes] - nets[gives];
            trial[one * CELLS_OF_SHIP + k]--;
            trial[oneGets]++;
            trial[other * CELLS_OF_SHIP + j]--;
            trial[otherGets]++;
            boolean levels = oneSwapLevels(oneTip + side(k / MOST_OF_KIND) * change, otherTip - side(j / MOST_OF_KIND) * change);
            trial[one * CELLS_OF_SHIP + k]++;
            trial[oneGets]--;
            trial[other * CELLS_OF_SHIP + j]++;
            trial[otherGets]--;
            return levels;
        }
    }
}
