import java.util.Arrays;
import java.util.function.IntUnaryOperator;
import java.util.function.ToIntFunction;

/**
 * The sentences of promises 1 to 36 that name a bound, promise by promise: the last argument that is allowed and the first
 * one that is not, on either side, and what a refused call leaves as it was.
 */
public final class EdgeCallTest {
    private static final int NONE = WrongTide.NONE;
    private static final int NOTHING = WrongTide.NOTHING;
    private static final int MIN = Integer.MIN_VALUE;
    private static final int MAX = Integer.MAX_VALUE;

    private static final String SMALL = "ware w weighs 1 lifts 0;ship s holds 4 trims 999;berth b from 0 to 9999;lies s b;";

    private final Harness h = new Harness();
    private final Twins busy = new Twins(h, Twins::busy);

    public static void main(String[] args) {
        EdgeCallTest test = new EdgeCallTest();
        test.tape();
        test.questions();
        test.ahead();
        test.rows();
        test.acts();
        test.images();
        test.h.finish("EdgeCallTest");
    }

    private void tape() {
        newObject();
        feed();
        feedBytes();
        end();
        endAlone();
        harbour();
        harbourAnew();
        fault();
    }

    private void questions() {
        has();
        hasMost();
        letter();
        ware();
        ship();
        tips();
        crates();
        berth();
        berthBits();
        tide();
    }

    private void ahead() {
        rides();
        adrift();
        adriftWhich();
        alike();
        berthed();
    }

    private void rows() {
        stow();
        stowed();
        order();
        ordered();
        swaps();
        rode();
        rodeNumbers();
    }

    private void acts() {
        lade();
        discharge();
        shift();
        moor();
        moorFree();
        hours();
        gales();
        undo();
        seed();
        kept();
    }

    private void images() {
        image();
        octet();
        on();
        onRefused();
        onBerths();
        onNone();
        status();
        statusEach();
    }

    private static int yes(boolean answer) {
        return answer ? 1 : 0;
    }

    /** Answers of one question with an argument below its least and above its most one; nothing changes by them. */
    private void outside(String call, int answer, int least, int most, Asked asked) {
        int[] wild = {least - 1, most + 1, MIN, MAX, least - 1000, most + 1000};
        for (int argument : wild) {
            busy.asked(call + " with " + argument, answer, x -> asked.of(x, argument));
        }
    }

    private void refusedOutside(String call, int kind, int answer, int least, int most, Asked asked) {
        int[] wild = {least - 1, most + 1, MIN, MAX};
        for (int argument : wild) {
            busy.refused(call + " with " + argument, kind, answer, x -> asked.of(x, argument));
        }
    }

    private interface Asked {
        int of(WrongTide x, int argument);
    }

    private void answers(String call, int[] due, IntUnaryOperator asked) {
        for (int k = 0; k < due.length; k++) {
            h.due(call + " with " + k, asked.applyAsInt(k), due[k]);
        }
    }

    // ---- promises 1 to 5

    private void newObject() {
        h.topic("promise 1: No SHIPS, no WARES; the seed is 1");
        WrongTide x = new WrongTide();
        answers("has", new int[] {0, 0, 0, 0, 100, 0, 0, 0, 0, 0, 1}, x::has);
        answers("status", new int[6], x::status);
        h.due("ship(0, 0)", x.ship(0, 0), NONE);
        h.due("ware(0, 0)", x.ware(0, 0), NONE);
        h.due("berth(0, 0)", x.berth(0, 0), NONE);
        h.due("letter(1, 0, 0)", x.letter(1, 0, 0), NONE);
        h.due("crates(0, 0, 0)", x.crates(0, 0, 0), NONE);
        h.due("tips(0)", x.tips(0), NOTHING);
        h.due("rides(0, 0)", x.rides(0, 0), NONE);
        h.due("alike(0, 1, 0)", x.alike(0, 1, 0), NONE);
        h.due("berthed(0, 0)", x.berthed(0, 0), NOTHING);
        h.due("swaps(0, 1)", x.swaps(0, 1), NONE);
        h.due("octet(0)", x.octet(0), NONE);
        h.due("kept(0, 0)", x.kept(0, 0), NONE);
        h.due("end(0)", x.end(0), true);
        h.due("image()", x.image(), 3);
    }

    private static WrongTide fed(int length) {
        WrongTide x = Twins.busy();
        for (int k = 0; k < length; k += 20) {
            x.feed(0x67616c65, 0x20373b20, 0x20202020, 0x20202020, 0x20202020);
        }
        x.end(length);
        return x;
    }

    private void feed() {
        h.topic("promise 2: NONE, refused (0), if there would be more than 1600");
        int[] good = {0, 1, 20, 1560, 1579, 1580};
        for (int length : good) {
            h.due("feed behind " + length, fed(length).feed(1, 2, 3, 4, 5), length + 20);
            h.due("nothing refused", fed(length).status(0), 0);
        }
        int[] bad = {1581, 1599, 1600};
        for (int length : bad) {
            Twins twins = new Twins(h, () -> fed(length));
            twins.refused("feed behind " + length, 0, x -> x.feed(1, 2, 3, 4, 5));
        }
        WrongTide x = fed(1600);
        h.due("feed", x.feed(0, 0, 0, 0, 0), NONE);
        h.due("end(1601)", x.end(1601), false);
        h.due("all 1600 stay", x.end(1600), true);
        h.due("their bytes stay", x.harbour(), 80);
        h.due("status(0)", x.status(0), 2);
    }

    private void feedBytes() {
        h.topic("promise 2: twenty bytes, of each number the highest first");
        WrongTide x = new WrongTide();
        x.feed(0x20202020, 0x20202020, 0x20202020, 0x20202020, 0x20202000);
        x.harbour();
        h.due("the last byte of the last number", x.fault(1), 19);
        for (int k = 0; k < 20; k++) {
            int[] five = new int[5];
            Arrays.fill(five, 0x20202020);
            five[k / 4] |= 0xff << (24 - 8 * (k % 4));
            x.feed(five[0], five[1], five[2], five[3], five[4]);
            h.due("harbour()", x.harbour(), NONE);
            h.due("byte " + k, x.fault(1), k);
        }
        int[] wild = {MIN, MAX, -1, 0};
        for (int number : wild) {
            x.feed(number, number, number, number, number);
            h.due("end(20)", x.end(20), true);
            x.end(0);
        }
    }

    private void end() {
        h.topic("promise 3: false, refused (0), if it has not so many, or n is below 0");
        int[] lengths = {0, 1, 19, 20, 21, 1600};
        for (int length : lengths) {
            Twins twins = new Twins(h, () -> fed(length));
            int[] bad = {length + 1, -1, MIN, MAX};
            for (int n : bad) {
                twins.refused("end(" + n + ") of " + length, 0, 0, x -> yes(x.end(n)));
            }
            WrongTide x = fed(length);
            h.due("end(" + length + ")", x.end(length), true);
            h.due("end(0) of " + length, x.end(0), true);
            h.due("nothing is left", x.end(1), false);
            h.due("status(0)", x.status(0), 1);
        }
        WrongTide x = new WrongTide();
        Harness.text(x, "gale 7;gale 8;?");
        h.due("end(14)", x.end(14), true);
        h.due("the first 14 alone", x.harbour(), 2);
        Harness.text(x, "gale 7;gale 8;?");
        x.end(7);
        x.feed(0x67616c65, 0x20373b20, 0x20202020, 0x20202020, 0x2020203f);
        h.due("new ones come behind the first 7", x.end(26), true);
        h.due("harbour()", x.harbour(), 2);
    }

    private void endAlone() {
        h.topic("promise 3: the tape has its first n bytes alone");
        String text = "ware abcd weighs 12 lifts 34;gale 0100;water 1+23*hour;";
        for (int n = 0; n <= text.length(); n++) {
            WrongTide cut = new WrongTide();
            Harness.text(cut, text);
            cut.end(n);
            WrongTide fresh = new WrongTide();
            Harness.text(fresh, text.substring(0, n));
            h.due("harbour() of " + n, cut.harbour(), fresh.harbour());
            h.due("fault(0) of " + n, cut.fault(0), fresh.fault(0));
            h.due("fault(1) of " + n, cut.fault(1), fresh.fault(1));
        }
        int[] cuts = {4, 8, 18, 28, 36, 47};
        for (int n : cuts) {
            WrongTide x = new WrongTide();
            Harness.text(x, text);
            x.end(n);
            h.due("harbour() of " + n, x.harbour(), NONE);
            h.due("it ends too soon, at its length", x.fault(1), n);
        }
        WrongTide x = Twins.busy();
        Harness.row(x, 0, 1, 9, 9, 9);
        x.end(2);
        h.due("a row cut to what is good", x.stow(0) >= 0, true);
        h.due("two crates", x.stowed(1) >= 0 && x.stowed(2) == NONE, true);
    }

    private void harbour() {
        h.topic("promise 4: how many STATEMENTS; the tape goes");
        WrongTide x = Twins.busy();
        h.due("an empty tape", x.harbour(), 0);
        h.due("a text", Harness.harbour(x, "gale 1;gale 2;"), 2);
        h.due("the tape went", x.feed(0, 0, 0, 0, 0), 20);
        h.due("a fault", x.harbour(), NONE);
        h.due("the tape went", x.feed(0, 0, 0, 0, 0), 20);
        x.end(0);
        h.due("status(1)", x.status(1), 1);
        String full = "gale 1;" + " ".repeat(1586) + "gale 2;";
        h.due("1600 bytes", Harness.harbour(x, full), 2);
        h.due("1600 bytes that end too soon", Harness.harbour(x, full.substring(1) + "g"), NONE);
        h.due("its place", x.fault(1), 0);
        String late = " ".repeat(1596) + "gale";
        h.due("1600 bytes that end too soon", Harness.harbour(x, late), NONE);
        h.due("at the text's length", x.fault(1), 1600);
        h.due("status(1)", x.status(1), 3);
    }

    private void harbourAnew() {
        h.topic("promise 4: without a FAULT all is as at first; the seed stays");
        WrongTide x = Twins.busy();
        h.due("harbour()", Harness.harbour(x, "ware tea weighs 1 lifts 0;ship brig holds 2 trims 0;berth quay from 100 to 100;"), 3);
        answers("has", new int[] {1, 1, 1, 0, 100, 0, 0, 0, 0, 0, 99}, x::has);
        answers("stowed", new int[] {NONE, NONE, NONE, NONE}, x::stowed);
        answers("ordered", new int[] {NONE, NONE, NONE}, x::ordered);
        h.due("kept(0, 0)", x.kept(0, 0), NONE);
        h.due("undo()", x.undo(), false);
        h.due("no rides", x.ship(0, 6), 100);
        h.due("no may, and moor", x.moor(0, 0), true);
        for (int k = 1; k <= 20; k++) {
            h.due("no may", x.lade(0, k % 2, 0), (k + 1) / 2);
        }
        h.due("crates(0, 0, 0)", x.crates(0, 0, 0), 10);
        x.moor(0, NONE);
        h.due("no gale", x.gales(200), 0);
        WrongTide y = Harness.told(SMALL + "may not all;");
        h.due("may of the one ahead", y.lade(0, 0, 0), NONE);
        Harness.harbour(y, SMALL + "may all;");
        h.due("may of the new one", y.lade(0, 0, 0), 1);
    }

    private void fault() {
        h.topic("promise 5: 0 without, and ahead of any; its place (NONE without); NONE for another what");
        WrongTide x = new WrongTide();
        answers("ahead of any, fault", new int[] {0, NONE, NONE}, x::fault);
        Harness.harbour(x, "gale 1;?");
        answers("fault", new int[] {1, 7, NONE}, x::fault);
        x.hours(1);
        x.end(99);
        answers("others leave it, fault", new int[] {1, 7, NONE}, x::fault);
        Harness.harbour(x, "?");
        answers("the latest, fault", new int[] {1, 0, NONE}, x::fault);
        Harness.harbour(x, "gale 1;");
        answers("without, fault", new int[] {0, NONE, NONE}, x::fault);
        outside("fault", NONE, 0, 1, WrongTide::fault);
    }

    // ---- promises 6 to 13

    private void has() {
        h.topic("promise 6: NONE for others");
        WrongTide x = Twins.busy();
        answers("has", new int[] {2, 2, 2, 3, 53, 7, 1, 24, 1, 2, 99, NONE}, x::has);
        outside("has", NONE, 0, 10, WrongTide::has);
    }

    private static String most() {
        StringBuilder text = new StringBuilder();
        for (char c = 'a'; c < 'g'; c++) {
            text.append("ware w").append(c).append(" weighs 1 lifts 0;ship s").append(c).append(" holds 4 trims 999;berth b").append(c)
                    .append(" from 0 to 9999;lies s").append(c).append(" b").append(c).append(";");
        }
        return text.toString();
    }

    private void hasMost() {
        h.topic("promise 6: at its most");
        WrongTide x = Harness.told(most());
        int[] row = new int[x.image()];
        Arrays.fill(row, 20);
        row[0] = 39;
        row[1] = 15;
        for (int ship = 0; ship < 6; ship++) {
            row[2 + 25 * ship] = 6 - ship;
        }
        Harness.row(x, Harness.sealed(row));
        h.due("on()", x.on(), true);
        answers("has", new int[] {6, 6, 6, 9999, 100, 0, 6, 2880, 0, 0, 1}, x::has);
        h.due("ware(5, 2)", x.ware(5, 2), 480);
        h.due("ship(5, 2)", x.ship(5, 2), 0);
        h.due("ship(5, 3)", x.ship(5, 3), 480);
        h.due("ship(5, 5)", x.ship(5, 5), 480);
        h.due("berth(5, 2)", x.berth(5, 2), 0);
        h.due("berth(5, 3)", x.berth(5, 3), 63);
        x.seed(MAX);
        h.due("the seed", x.has(10), MAX);
        x.seed(0);
        h.due("the seed", x.has(10), 0);
    }

    private void letter() {
        h.topic("promise 7: letter k (0 .. 5); 0 behind it; NONE when there is none such");
        WrongTide x = Harness.told("ware z weighs 1 lifts 1;ware azazaz weighs 1 lifts 1;ship b holds 2 trims 0;berth qa from 0 to 0;");
        answers("letter(0, 0, k)", new int[] {26, 0, 0, 0, 0, 0, NONE}, k -> x.letter(0, 0, k));
        answers("letter(0, 1, k)", new int[] {1, 26, 1, 26, 1, 26, NONE}, k -> x.letter(0, 1, k));
        answers("letter(1, 0, k)", new int[] {2, 0, 0, 0, 0, 0, NONE}, k -> x.letter(1, 0, k));
        answers("letter(2, 0, k)", new int[] {17, 1, 0, 0, 0, 0, NONE}, k -> x.letter(2, 0, k));
        answers("letter(0, which, 0)", new int[] {26, 1, NONE, NONE, NONE, NONE, NONE}, which -> x.letter(0, which, 0));
        answers("letter(1, which, 0)", new int[] {2, NONE}, which -> x.letter(1, which, 0));
        answers("letter(kind, 0, 0)", new int[] {26, 2, 17, NONE}, kind -> x.letter(kind, 0, 0));
        outside("letter(kind, 0, 0)", NONE, 0, 2, (y, kind) -> y.letter(kind, 0, 0));
        outside("letter(0, which, 0)", NONE, 0, 1, (y, which) -> y.letter(0, which, 0));
        outside("letter(2, which, 5)", NONE, 0, 1, (y, which) -> y.letter(2, which, 5));
        outside("letter(1, 1, k)", NONE, 0, 5, (y, k) -> y.letter(1, 1, k));
    }

    private void ware() {
        h.topic("promise 8: NONE when there is none such, or for others");
        WrongTide x = Twins.busy();
        answers("ware(0, what)", new int[] {2, 3, 3, NONE}, what -> x.ware(0, what));
        answers("ware(1, what)", new int[] {5, 0, 21, NONE}, what -> x.ware(1, what));
        outside("ware(ware, 0)", NONE, 0, 1, (y, ware) -> y.ware(ware, 0));
        outside("ware(ware, 2)", NONE, 0, 1, (y, ware) -> y.ware(ware, 2));
        outside("ware(1, what)", NONE, 0, 2, (y, what) -> y.ware(1, what));
    }

    private void ship() {
        h.topic("promise 9: the BERTH it lies in (NONE); NONE when there is none such, or for others");
        WrongTide x = Twins.busy();
        answers("ship(0, what)", new int[] {4, 199, 0, 106, 9, 23, 159, 1, NONE}, what -> x.ship(0, what));
        answers("ship(1, what)", new int[] {2, 9, NONE, 5, 0, 1, 58, 1, NONE}, what -> x.ship(1, what));
        for (int what = 0; what < 8; what++) {
            int asked = what;
            outside("ship(ship, " + what + ")", NONE, 0, 1, (y, ship) -> y.ship(ship, asked));
        }
        outside("ship(1, what)", NONE, 0, 7, (y, what) -> y.ship(1, what));
    }

    private void tips() {
        h.topic("promise 10: NOTHING when there is none such");
        WrongTide x = Twins.busy();
        h.due("tips(0)", x.tips(0), -103);
        h.due("tips(1)", x.tips(1), 5);
        outside("tips", NOTHING, 0, 1, WrongTide::tips);
        WrongTide one = Harness.told("ware w weighs 0 lifts 1;ship s holds 2 trims 0;loads s 0 w 1;");
        h.due("-1 is a number", one.tips(0), -1);
    }

    private void crates() {
        h.topic("promise 11: NONE when there is none such");
        WrongTide x = Twins.busy();
        answers("crates(0, hold, 1)", new int[] {0, 0, 0, 20, NONE, NONE}, hold -> x.crates(0, hold, 1));
        answers("crates(1, hold, 1)", new int[] {1, 0, NONE, NONE, NONE}, hold -> x.crates(1, hold, 1));
        answers("crates(0, 0, ware)", new int[] {3, 0, NONE, NONE}, ware -> x.crates(0, 0, ware));
        outside("crates(ship, 0, 0)", NONE, 0, 1, (y, ship) -> y.crates(ship, 0, 0));
        outside("crates(0, hold, 0)", NONE, 0, 3, (y, hold) -> y.crates(0, hold, 0));
        outside("crates(1, hold, 0)", NONE, 0, 1, (y, hold) -> y.crates(1, hold, 0));
        outside("crates(0, 0, ware)", NONE, 0, 1, (y, ware) -> y.crates(0, 0, ware));
    }

    private void berth() {
        h.topic("promise 12: the SHIP that lies in it (NONE); NONE when there is none such, or for others");
        WrongTide x = Twins.busy();
        answers("berth(0, what)", new int[] {0, 9999, 0, 3, NONE}, what -> x.berth(0, what));
        answers("berth(1, what)", new int[] {500, 600, NONE, 0, NONE}, what -> x.berth(1, what));
        for (int what = 0; what < 4; what++) {
            int asked = what;
            outside("berth(berth, " + what + ")", NONE, 0, 1, (y, berth) -> y.berth(berth, asked));
        }
        outside("berth(0, what)", NONE, 0, 3, (y, what) -> y.berth(0, what));
    }

    private void berthBits() {
        h.topic("promise 12: SHIPS that are SAFE in it now, as bits");
        for (int ship = 0; ship < 6; ship++) {
            String text = most() + "rides 100-weight;";
            String name = "s" + (char) ('a' + ship);
            WrongTide x = Harness.told(text + "loads " + name + " 0 wa 1;" + "loads " + name + " 1 wb 1;");
            h.due("all", x.berth(0, 3), 63);
            WrongTide y = Harness.told((text + "loads " + name + " 0 wa 1;").replace("berth ba from 0", "berth ba from 100"));
            h.due("all but " + ship, y.berth(0, 3), 63 - (1 << ship));
            WrongTide z = Harness.told((text + "loads " + name + " 0 wa 1;").replace("berth ba from 0 to 9999", "berth ba from 0 to 99"));
            h.due(ship + " alone", z.berth(0, 3), 1 << ship);
        }
    }

    private void tide() {
        h.topic("promise 13: in an HOUR (0 .. 9999); NONE when that can't be");
        WrongTide x = Harness.told("water hour;moon 9999-hour;");
        int[] hours = {0, 1, 9998, 9999};
        for (int hour : hours) {
            h.due("WATER in " + hour, x.tide(hour, 0), hour);
            h.due("MOON in " + hour, x.tide(hour, 1), 9999 - hour);
        }
        outside("tide(hour, 0)", NONE, 0, 9999, (y, hour) -> y.tide(hour, 0));
        outside("tide(hour, 1)", NONE, 0, 9999, (y, hour) -> y.tide(hour, 1));
        outside("tide(0, what)", NONE, 0, 1, (y, what) -> y.tide(0, what));
    }

    // ---- promises 14 to 17

    private void rides() {
        h.topic("promise 14: in n HOURS (0 .. 200); NONE when that can't be, or beyond HOUR 9999");
        WrongTide x = Twins.busy();
        h.due("rides(0, 0)", x.rides(0, 0), 159);
        h.due("rides(0, 200)", x.rides(0, 200), 359);
        outside("rides(0, n)", NONE, 0, 200, (y, n) -> y.rides(0, n));
        outside("rides(ship, 0)", NONE, 0, 1, (y, ship) -> y.rides(ship, 0));
        Harness.late(x, 9799);
        h.due("to HOUR 9999", x.rides(1, 200), 9999);
        WrongTide low = Harness.told("ship s holds 2 trims 0;water 9999-hour;");
        int[] hours = {9799, 9800, 9998, 9999};
        for (int hour : hours) {
            Harness.late(low, hour);
            int most = Math.min(200, 9999 - hour);
            h.due("as far as can be from " + hour, low.rides(0, most), 9999 - hour - most);
            h.due("one more from " + hour, low.rides(0, most + 1), NONE);
        }
    }

    private void adrift() {
        h.topic("promise 15: in how many HOURS (1 .. 200); NONE without, or for others");
        int[][] due = {{0, NONE}, {1, 1}, {2, 2}, {199, 199}, {200, 200}, {201, NONE}};
        for (int[] row : due) {
            WrongTide x = Harness.told("ship s holds 2 trims 0;ship t holds 2 trims 0;berth b from 0 to 100;lies t b;water if(hour="
                    + row[0] + ",101,100);");
            h.due("adrift(0) in " + row[0], x.adrift(0), row[1]);
            h.due("adrift(1) in " + row[0], x.adrift(1), row[1] == NONE ? NONE : 1);
        }
        outside("adrift", NONE, 0, 1, WrongTide::adrift);
        WrongTide late = Harness.told("ship s holds 2 trims 0;berth b from 0 to 100;lies s b;water if(hour<9999,100,101);");
        int[][] hours = {{9798, NONE}, {9799, 200}, {9998, 1}, {9999, NONE}};
        for (int[] row : hours) {
            Harness.late(late, row[0]);
            h.due("adrift(0) from HOUR " + row[0], late.adrift(0), row[1]);
        }
        h.due("none that lies", Harness.told("ship s holds 2 trims 0;berth b from 0 to 1;").adrift(0), NONE);
        h.due("no ships", new WrongTide().adrift(1), NONE);
    }

    private void adriftWhich() {
        h.topic("promise 15: which (the first one)");
        String port = "ship s holds 2 trims 0;ship t holds 2 trims 0;ship u holds 2 trims 0;water 100+hour;";
        WrongTide x = Harness.told(port + "berth b from 0 to 105;berth c from 0 to 103;berth d from 0 to 103;lies s b;lies t d;lies u c;");
        h.due("adrift(0)", x.adrift(0), 4);
        h.due("adrift(1)", x.adrift(1), 1);
        h.due("nothing changes", x.has(6), 3);
        h.due("nothing changes", x.has(3), 0);
    }

    private void alike() {
        h.topic("promise 16: in how many HOURS (0 .. 200), for the k-th time (0: the first); NONE without, none such, or one");
        String port = "ware w weighs 1 lifts 0;ship s holds 2 trims 0;ship t holds 2 trims 0;loads t 0 w 1;rides ";
        WrongTide x = Harness.told(port + "if(hour%200=0,5,weight);");
        h.due("now", x.alike(0, 1, 0), 0);
        h.due("in 200", x.alike(0, 1, 1), 200);
        h.due("no third time", x.alike(0, 1, 2), NONE);
        h.due("k is -1", x.alike(0, 1, -1), NONE);
        h.due("k is MIN", x.alike(0, 1, MIN), NONE);
        h.due("k is MAX", x.alike(0, 1, MAX), NONE);
        h.due("the other way", x.alike(1, 0, 1), 200);
        h.due("they are one", x.alike(0, 0, 0), NONE);
        h.due("they are one", x.alike(1, 1, 0), NONE);
        outside("alike(first, 0, 0)", NONE, 0, 1, (y, first) -> y.alike(first, 0, 0));
        outside("alike(1, second, 0)", NONE, 0, 1, (y, second) -> y.alike(1, second, 0));
        outside("alike(n, n, 0)", NONE, 0, 1, (y, both) -> y.alike(both, both, 0));
        WrongTide same = Harness.told(port + "5;");
        int[] none = {-1, 2, MIN, MAX};
        for (int ship : none) {
            h.due("no such second one", same.alike(0, ship, 0), NONE);
            h.due("no such first one", same.alike(ship, 1, 0), NONE);
        }
        int[] hours = {0, 9799, 9800, 9999};
        for (int hour : hours) {
            Harness.late(same, hour);
            int most = Math.min(200, 9999 - hour);
            h.due("the last time from HOUR " + hour, same.alike(0, 1, most), most);
            h.due("one more from HOUR " + hour, same.alike(0, 1, most + 1), NONE);
        }
    }

    private void berthed() {
        h.topic("promise 17: in n HOURS (0 .. 200); NOTHING when there is none such, or n can't be");
        WrongTide x = Harness.told("ship s holds 2 trims 0;ship t holds 2 trims 0;berth b from 100 to 100;water if(hour=200,101,100);");
        h.due("n is 0", x.berthed(0, NONE), 1);
        h.due("n is 199", x.berthed(199, NONE), 1);
        h.due("n is 200", x.berthed(200, NONE), 0);
        h.due("of the first ship", x.berthed(0, 0), 0);
        h.due("of the last ship", x.berthed(0, 1), NONE);
        outside("berthed(n, NONE)", NOTHING, 0, 200, (y, n) -> y.berthed(n, NONE));
        outside("berthed(n, 0)", NOTHING, 0, 200, (y, n) -> y.berthed(n, 0));
        outside("berthed(0, ship)", NOTHING, -1, 1, (y, ship) -> y.berthed(0, ship));
        int[] hours = {9799, 9800, 9998, 9999};
        for (int hour : hours) {
            Harness.late(x, hour);
            int most = Math.min(200, 9999 - hour);
            h.due("as far as can be from HOUR " + hour, x.berthed(most, NONE), 1);
            h.due("one more from HOUR " + hour, x.berthed(most + 1, NONE), NOTHING);
            h.due("one more from HOUR " + hour, x.berthed(most + 1, 1), NOTHING);
        }
        busy.asked("berthed(200, NONE)", 1, y -> y.berthed(200, NONE));
    }

    // ---- promises 18 to 23

    private void refusedRow(String call, int[] row, ToIntFunction<WrongTide> asked) {
        busy.refusedRow(call + " of " + Arrays.toString(row), 5, NONE, row, asked);
    }

    private void stow() {
        h.topic("promise 18: a row of 1 to 6 WARES; NONE, refused (5), when it is none such");
        refusedRow("stow(0)", new int[0], x -> x.stow(0));
        refusedRow("stow(0)", new int[7], x -> x.stow(0));
        refusedRow("stow(0)", new int[1600], x -> x.stow(0));
        refusedRow("stow(0)", new int[] {2}, x -> x.stow(0));
        refusedRow("stow(0)", new int[] {255}, x -> x.stow(0));
        refusedRow("stow(0)", new int[] {0, 1, 0, 1, 0, 2}, x -> x.stow(0));
        int[] ships = {-1, 2, MIN, MAX};
        for (int ship : ships) {
            refusedRow("stow(" + ship + ")", new int[] {0}, x -> x.stow(ship));
        }
        WrongTide x = Twins.busy();
        for (int length = 1; length <= 6; length++) {
            Harness.row(x, new int[length]);
            h.due("a row of " + length, x.stow(1), Math.abs(5 - length));
            h.due("the tape went", x.end(1), false);
        }
        Harness.row(x, 1);
        h.due("the last WARE", x.stow(1), 0);
        h.due("nothing refused", x.status(5), 0);
        h.due("nothing went in", x.has(7), 24);
        WrongTide full = Harness.told("ware w weighs 1 lifts 0;ship s holds 2 trims 0;loads s 0 w 20;loads s 1 w 20;");
        Harness.row(full, 0);
        h.due("they can't go in", full.stow(0), NONE);
        h.due("that is not refused", full.status(5), 0);
        h.due("the tape went", full.end(1), false);
    }

    private void stowed() {
        h.topic("promise 19: NONE when there is none such, or they could not go in");
        WrongTide x = Twins.busy();
        answers("stowed", new int[] {1, 0, 0, NONE, NONE, NONE, NONE}, x::stowed);
        outside("stowed", NONE, 0, 2, WrongTide::stowed);
        Harness.row(x, 0, 0, 0, 0, 0, 0);
        x.stow(1);
        answers("six, stowed", new int[] {0, 0, 0, 0, 0, 0, NONE}, x::stowed);
        Harness.row(x, 1);
        x.stow(1);
        answers("one, stowed", new int[] {1, NONE}, x::stowed);
        Harness.row(x, 9);
        x.stow(1);
        answers("behind one refused, stowed", new int[] {1, NONE}, x::stowed);
        WrongTide full = Harness.told("ware w weighs 1 lifts 0;ship s holds 2 trims 0;loads s 0 w 20;loads s 1 w 19;");
        h.due("ahead of any", full.stowed(0), NONE);
        Harness.row(full, 0);
        full.stow(0);
        h.due("the last one that can go in", full.stowed(0), 1);
        Harness.row(full, 0, 0);
        full.stow(0);
        h.due("they could not go in", full.stowed(0), NONE);
    }

    private void order() {
        h.topic("promise 20: a row of 1 to 6 crates; NONE, refused (5), when it is none such, or the SHIP lies in no BERTH");
        int[] lengths = {0, 1, 3, 11, 13, 14, 15, 1600};
        for (int length : lengths) {
            refusedRow("order(0)", new int[length], x -> x.order(0));
        }
        int[][] rows = {{4, 0}, {255, 0}, {0, 2}, {0, 255}, {0, 0, 4, 0}, {0, 0, 3, 2}, {3, 1, 3, 1, 3, 1, 3, 1, 3, 1, 4, 1}};
        for (int[] row : rows) {
            refusedRow("order(0)", row, x -> x.order(0));
        }
        refusedRow("order(1), in no BERTH", new int[] {0, 0}, x -> x.order(1));
        int[] ships = {-1, 2, MIN, MAX};
        for (int ship : ships) {
            refusedRow("order(" + ship + ")", new int[] {0, 0}, x -> x.order(ship));
        }
        WrongTide x = Harness.told(most());
        for (int length = 2; length <= 12; length += 2) {
            Harness.row(x, new int[length]);
            h.due("a row of " + length, x.order(5), 1);
            h.due("the tape went", x.end(1), false);
        }
        Harness.row(x, 3, 5);
        h.due("the last HOLD and WARE", x.order(0), 1);
        h.due("nothing refused", x.status(5), 0);
        h.due("nothing was laded", x.has(7), 0);
        WrongTide two = Harness.told(most().replace("ship sa holds 4", "ship sa holds 2"));
        Harness.row(two, 2, 0);
        h.due("a third HOLD of two", two.order(0), NONE);
        Harness.row(two, 2, 0);
        h.due("a third HOLD of four", two.order(1), 1);
    }

    private void ordered() {
        h.topic("promise 21: NONE when there is none such, or no ORDER");
        WrongTide x = Harness.told(most() + "may count<7;");
        h.due("ahead of any", x.ordered(0), NONE);
        Harness.row(x, new int[12]);
        x.order(0);
        answers("six, ordered", new int[] {0, 1, 2, 3, 4, 5, NONE}, x::ordered);
        Harness.row(x, 0, 9);
        x.order(0);
        answers("behind one refused, ordered", new int[] {0, 1, 2, 3, 4, 5, NONE}, x::ordered);
        Harness.row(x, 0, 0);
        x.order(0);
        answers("one, ordered", new int[] {0, NONE, NONE}, x::ordered);
        x.lade(0, 0, 0);
        Harness.row(x, new int[12]);
        h.due("no ORDER", x.order(0), 0);
        answers("no ORDER, ordered", new int[] {NONE, NONE, NONE}, x::ordered);
        outside("ordered", NONE, 0, 1, WrongTide::ordered);
    }

    private void swaps() {
        h.topic("promise 22: NONE when 2 are not enough, there are none such, or they are one");
        WrongTide x = Twins.busy();
        h.due("both LEVEL", x.swaps(0, 1), 0);
        h.due("they are one", x.swaps(0, 0), NONE);
        h.due("they are one", x.swaps(1, 1), NONE);
        outside("swaps(first, 1)", NONE, 0, 1, (y, first) -> y.swaps(first, 1));
        outside("swaps(0, second)", NONE, 0, 1, (y, second) -> y.swaps(0, second));
        outside("swaps(n, n)", NONE, 0, 1, (y, both) -> y.swaps(both, both));
        String two = "ware w weighs 4 lifts 0;ware v weighs 1 lifts 0;ship s holds 2 trims 0;ship t holds 2 trims 0;";
        for (int many = 0; many <= 4; many++) {
            String loads = "loads s 0 w " + many + ";loads s 1 v " + many + ";loads t 0 v " + many + ";loads t 1 w " + many + ";";
            h.due(many + " would be needed", Harness.told(two + loads).swaps(0, 1), many <= 2 ? many : NONE);
        }
        Twins tipped = new Twins(h, () -> Harness.told(two + "loads s 0 w 2;loads s 1 v 2;loads t 0 v 2;loads t 1 w 2;"));
        tipped.asked("two swaps", 2, y -> y.swaps(0, 1));
    }

    private void rode() {
        h.topic("promise 23: 1 to 10 rows of four bytes; NONE, refused (5), when it is none such");
        int[] lengths = {0, 1, 2, 3, 5, 6, 7, 39, 41, 44, 1600};
        for (int length : lengths) {
            refusedRow("rode(0)", new int[length], x -> x.rode(0));
        }
        int[] ships = {-1, 2, MIN, MAX};
        for (int ship : ships) {
            refusedRow("rode(" + ship + ")", new int[4], x -> x.rode(ship));
        }
        for (int many = 1; many <= 10; many++) {
            WrongTide x = Harness.told("ware w weighs 1 lifts 0;ship s holds 2 trims 0;rides weight;");
            int[] row = new int[4 * many];
            for (int k = 0; k < many; k++) {
                row[4 * k + 3] = 8;
            }
            Harness.row(x, row);
            h.due(many + " rows", x.rode(0), 1);
            h.due("the tape went", x.end(1), false);
            row[4 * many - 1] = 9;
            Harness.row(x, row);
            h.due("the last of " + many + " rows counts", x.rode(0), many == 1 ? 1 : 0);
            h.due("nothing refused", x.status(5), 0);
        }
    }

    private void rodeNumbers() {
        h.topic("promise 23: HOUR, height (two bytes each, 9999 at most)");
        int[][] bad = {{39, 16, 0, 0}, {255, 255, 0, 0}, {40, 0, 0, 0}, {0, 0, 39, 16}, {0, 0, 255, 255}, {0, 0, 40, 0},
            {0, 0, 0, 0, 39, 16, 0, 0}, {0, 0, 0, 0, 0, 0, 39, 16}};
        for (int[] row : bad) {
            refusedRow("rode(0)", row, x -> x.rode(0));
        }
        WrongTide x = Harness.told("ware w weighs 1 lifts 0;ship s holds 2 trims 0;rides hour+weight-1;");
        int[][] good = {{39, 15, 39, 15, 20}, {0, 0, 0, 0, 1}, {1, 0, 1, 0, 1}, {0, 255, 1, 0, 1}, {39, 14, 39, 15, 19}, {0, 0, 39, 15, 0}};
        for (int[] row : good) {
            Harness.row(x, Arrays.copyOf(row, 4));
            h.due("rode(0) of " + Arrays.toString(row), x.rode(0), row[4]);
        }
        h.due("nothing refused", x.status(5), 0);
    }

    // ---- promises 24 to 32

    private void lade() {
        h.topic("promise 24: how many there are then; NONE, refused (2), when that can't be");
        refusedOutside("lade(ship, 0, 0)", 2, NONE, 0, 1, (x, ship) -> x.lade(ship, 0, 0));
        refusedOutside("lade(0, hold, 0)", 2, NONE, 0, 3, (x, hold) -> x.lade(0, hold, 0));
        refusedOutside("lade(0, 0, ware)", 2, NONE, 0, 1, (x, ware) -> x.lade(0, 0, ware));
        busy.refused("lade(1, 0, 0), in no BERTH", 2, x -> x.lade(1, 0, 0));
        busy.refused("lade(0, 3, 1), 20 there", 2, x -> x.lade(0, 3, 1));
        Twins barred = new Twins(h, () -> {
            WrongTide x = Twins.busy();
            x.lade(0, 0, 0);
            return x;
        });
        barred.refused("lade(0, 2, 1), may count<25", 2, x -> x.lade(0, 2, 1));
        WrongTide x = Harness.told(most() + "loads sf 3 wf 18;");
        h.due("the 19th", x.lade(5, 3, 5), 19);
        h.due("the 20th", x.lade(5, 3, 5), 20);
        h.due("the 21st", x.lade(5, 3, 5), NONE);
        h.due("status(2)", x.status(2), 1);
        h.due("the first", x.lade(0, 0, 0), 1);
        h.due("KEPT", x.has(8), 3);
        h.due("ACTS", x.has(9), 3);
    }

    private void discharge() {
        h.topic("promise 25: how many are left; NONE, refused (2), when that can't be");
        refusedOutside("discharge(ship, 0, 0)", 2, NONE, 0, 1, (x, ship) -> x.discharge(ship, 0, 0));
        refusedOutside("discharge(0, hold, 0)", 2, NONE, 0, 3, (x, hold) -> x.discharge(0, hold, 0));
        refusedOutside("discharge(0, 0, ware)", 2, NONE, 0, 1, (x, ware) -> x.discharge(0, 0, ware));
        busy.refused("discharge(1, 0, 1), in no BERTH", 2, x -> x.discharge(1, 0, 1));
        busy.refused("discharge(0, 1, 0), none there", 2, x -> x.discharge(0, 1, 0));
        Twins barred = new Twins(h, () -> Harness.told(SMALL + "loads s 0 w 2;loads s 1 w 20;may tip>0-19;"));
        barred.refused("discharge(0, 0, 0), may tip>0-19", 2, x -> x.discharge(0, 0, 0));
        WrongTide x = Harness.told(most() + "loads sf 3 wf 2;loads sa 0 wa 20;");
        h.due("the last but one", x.discharge(5, 3, 5), 1);
        h.due("the last", x.discharge(5, 3, 5), 0);
        h.due("none left", x.discharge(5, 3, 5), NONE);
        h.due("of 20", x.discharge(0, 0, 0), 19);
        h.due("status(2)", x.status(2), 1);
        h.due("KEPT", x.has(8), 3);
        h.due("ACTS", x.has(9), 3);
    }

    private void shift() {
        h.topic("promise 26: false, refused (2), when there are none such, there is no crate, or 20 there already");
        refusedOutside("shift(ship, 0, 0, 1)", 2, 0, 0, 1, (x, ship) -> yes(x.shift(ship, 0, 0, 1)));
        refusedOutside("shift(0, hold, 0, 1)", 2, 0, 0, 3, (x, hold) -> yes(x.shift(0, hold, 0, 1)));
        refusedOutside("shift(0, 0, ware, 1)", 2, 0, 0, 1, (x, ware) -> yes(x.shift(0, 0, ware, 1)));
        refusedOutside("shift(0, 0, 0, to)", 2, 0, 0, 3, (x, to) -> yes(x.shift(0, 0, 0, to)));
        refusedOutside("shift(1, 0, 1, to)", 2, 0, 0, 1, (x, to) -> yes(x.shift(1, 0, 1, to)));
        busy.refused("shift(0, 1, 0, 0), no crate", 2, 0, x -> yes(x.shift(0, 1, 0, 0)));
        busy.refused("shift(0, 0, 0, 0), no other HOLD", 2, 0, x -> yes(x.shift(0, 0, 0, 0)));
        Twins full = new Twins(h, () -> Harness.told(SMALL + "loads s 0 w 1;loads s 3 w 20;"));
        full.refused("shift(0, 0, 0, 3), 20 there", 2, 0, x -> yes(x.shift(0, 0, 0, 3)));
        WrongTide x = Harness.told(most() + "loads sa 0 wa 1;loads sa 3 wa 19;loads sa 1 wb 20;may not all;");
        h.due("the last crate, to 20", x.shift(0, 0, 0, 3), true);
        h.due("none is left", x.crates(0, 0, 0), 0);
        h.due("20 are there", x.crates(0, 3, 0), 20);
        h.due("of 20", x.shift(0, 1, 1, 2), true);
        h.due("19 are left", x.crates(0, 1, 1), 19);
        h.due("no crate now", x.shift(0, 0, 0, 1), false);
        h.due("status(2)", x.status(2), 1);
        h.due("ACTS", x.has(9), 2);
        WrongTide none = Twins.busy();
        h.due("of a SHIP in no BERTH", none.shift(1, 0, 1, 1), true);
    }

    private void moor() {
        h.topic("promise 27: false, refused (3), when that can't be");
        refusedOutside("moor(ship, 0)", 3, 0, 0, 1, (x, ship) -> yes(x.moor(ship, 0)));
        refusedOutside("moor(ship, NONE)", 3, 0, 0, 1, (x, ship) -> yes(x.moor(ship, NONE)));
        refusedOutside("moor(0, berth)", 3, 0, -1, 1, (x, berth) -> yes(x.moor(0, berth)));
        refusedOutside("moor(1, berth)", 3, 0, -1, 1, (x, berth) -> yes(x.moor(1, berth)));
        busy.refused("moor(1, 0), one lies in it", 3, 0, x -> yes(x.moor(1, 0)));
        busy.refused("moor(0, 0), it lies in it itself", 3, 0, x -> yes(x.moor(0, 0)));
        busy.refused("moor(1, 1), not SAFE", 3, 0, x -> yes(x.moor(1, 1)));
        busy.refused("moor(1, NONE), it has none to leave", 3, 0, x -> yes(x.moor(1, NONE)));
    }

    private void moorFree() {
        h.topic("promise 27: a BERTH in which none lies, and in which it is SAFE now (NONE: it leaves its own)");
        WrongTide x = Twins.busy();
        h.due("it leaves", x.moor(0, NONE), true);
        h.due("another takes it", x.moor(1, 0), true);
        h.due("not the first one again", x.moor(0, 0), false);
        h.due("another leaves", x.moor(1, NONE), true);
        h.due("the first one again", x.moor(0, 0), true);
        h.due("ACTS", x.has(9), 6);
        String port = "ware w weighs 1 lifts 0;ship s holds 2 trims 3;rides hour;";
        int[][] due = {{0, 0, 1}, {1, 1, 0}, {0, 9999, 1}};
        for (int[] row : due) {
            WrongTide y = Harness.told(port + "berth b from " + row[0] + " to " + row[1] + ";");
            h.due("rides at 0, from " + row[0], y.moor(0, 0), row[2] == 1);
        }
        WrongTide y = Harness.told(port + "berth b from 1 to 2;");
        int[] hours = {0, 1, 2, 3};
        for (int hour : hours) {
            Harness.late(y, hour);
            h.due("SAFE now, in HOUR " + hour, y.moor(0, 0), hour == 1 || hour == 2);
            y.moor(0, NONE);
        }
        h.due("LEVEL by trims", Harness.told(port + "loads s 1 w 3;berth b from 0 to 0;").moor(0, 0), true);
        h.due("not LEVEL by one", Harness.told(port + "loads s 1 w 4;berth b from 0 to 0;").moor(0, 0), false);
    }

    private void hours() {
        h.topic("promise 28: n HOURS go by (1 .. 200); NONE, refused (3), when that can't be");
        refusedOutside("hours", 3, NONE, 1, 200, WrongTide::hours);
        busy.refused("hours(-1)", 3, x -> x.hours(-1));
        Twins late = new Twins(h, () -> {
            WrongTide x = Twins.busy();
            Harness.late(x, 9990);
            x.hours(1);
            return x;
        });
        late.refused("hours(9) in HOUR 9991", 3, x -> x.hours(9));
        late.refused("hours(200) in HOUR 9991", 3, x -> x.hours(200));
        int[] good = {1, 2, 199, 200};
        for (int n : good) {
            WrongTide x = Twins.busy();
            h.due("hours(" + n + ")", x.hours(n), 0);
            h.due("HOUR", x.has(3), 3 + n);
            h.due("one ACT", x.has(9), 3);
            h.due("no DRAWS", x.has(10), 99);
            h.due("nothing lost", x.has(7), 24);
        }
        WrongTide six = Harness.told(most().replace("to 9999", "to 100") + "water if(hour=5,101,100);");
        h.due("none of six", six.hours(4), 0);
        h.due("six", six.hours(196), 6);
    }

    private void gales() {
        h.topic("promise 29: n HOURS by the seed (1 .. 200), one ACT; NONE, refused (3), when that can't be");
        refusedOutside("gales", 3, NONE, 1, 200, WrongTide::gales);
        busy.refused("gales(-1)", 3, x -> x.gales(-1));
        Twins late = new Twins(h, () -> {
            WrongTide x = Twins.busy();
            Harness.late(x, 9990);
            x.gales(1);
            return x;
        });
        late.refused("gales(9) in HOUR 9991", 3, x -> x.gales(9));
        int[] good = {1, 2, 199, 200};
        for (int n : good) {
            WrongTide x = Twins.busy();
            h.due("gales(" + n + ")", x.gales(n), 1);
            h.due("HOUR", x.has(3), 3 + n);
            h.due("one ACT", x.has(9), 3);
            h.due("the one crate of hoy", x.has(7), 23);
            long seed = 99;
            for (int k = 0; k < n; k++) {
                seed = Harness.next(seed);
            }
            h.due("a DRAW an HOUR", x.has(10), seed);
        }
        WrongTide x = Twins.busy();
        Harness.late(x, 9991);
        h.due("gales(8) in HOUR 9991", x.gales(8), 1);
        h.due("HOUR", x.has(3), 9999);
        String six = most().replaceAll("lies s. b.;", "");
        WrongTide y = Harness.told(six + "gale 100;loads sa 0 wa 20;loads sf 3 wf 20;");
        h.due("two lose 20 each", y.gales(200), 40);
        h.due("40 are KEPT", y.has(8), 40);
    }

    private void undo() {
        h.topic("promise 30: all is as it was ahead of it (but the seed); false, refused (4), when none can be");
        Twins fresh = new Twins(h, () -> Harness.told(SMALL));
        fresh.refused("undo() of none", 4, 0, x -> yes(x.undo()));
        Twins used = new Twins(h, () -> {
            WrongTide x = Twins.busy();
            x.undo();
            x.undo();
            return x;
        });
        used.refused("undo() behind all", 4, 0, x -> yes(x.undo()));
        Twins long20 = new Twins(h, () -> {
            WrongTide x = Twins.busy();
            for (int k = 0; k < 25; k++) {
                x.hours(1);
            }
            for (int k = 0; k < 20; k++) {
                x.undo();
            }
            return x;
        });
        long20.refused("the 21st undo()", 4, 0, x -> yes(x.undo()));
        Twins on = new Twins(h, () -> {
            WrongTide x = Twins.busy();
            Harness.late(x, 7);
            return x;
        });
        on.refused("undo() behind on()", 4, 0, x -> yes(x.undo()));
        int[] acts = {0, 1, 2, 3, 4, 5, 6};
        for (int act : acts) {
            WrongTide x = Twins.busy();
            h.due("ACT " + act, act(x, act), true);
            h.due("undo()", x.undo(), true);
            x.seed(99);
            h.due("all is as it was", Sight.of(x).equals(Sight.of(Twins.busy())), true);
        }
    }

    private static boolean act(WrongTide x, int which) {
        return switch (which) {
            case 0 -> x.lade(0, 1, 1) == 1;
            case 1 -> x.discharge(0, 3, 1) == 19;
            case 2 -> x.shift(0, 3, 1, 2);
            case 3 -> x.moor(0, NONE);
            case 4 -> x.hours(200) == 0;
            case 5 -> x.gales(200) == 1;
            default -> x.shift(1, 0, 1, 1);
        };
    }

    private void seed() {
        h.topic("promise 31: false, refused (5), when it is below 0");
        int[] bad = {-1, -2, MIN};
        for (int seed : bad) {
            busy.refused("seed(" + seed + ")", 5, 0, x -> yes(x.seed(seed)));
        }
        int[] good = {0, 1, MAX - 1, MAX};
        for (int seed : good) {
            WrongTide x = Twins.busy();
            h.due("seed(" + seed + ")", x.seed(seed), true);
            h.due("has(10)", x.has(10), seed);
            h.due("status(5)", x.status(5), 0);
            x.gales(1);
            h.due("behind a DRAW", x.has(10), Harness.next(seed));
        }
    }

    private void kept() {
        h.topic("promise 32: from the oldest on; NONE when there is none such, or for others");
        WrongTide x = Twins.busy();
        answers("kept(0, what)", new int[] {0, 0, 0, 0, 1, NONE}, what -> x.kept(0, what));
        outside("kept(k, 0)", NONE, 0, 0, (y, k) -> y.kept(k, 0));
        outside("kept(0, what)", NONE, 0, 4, (y, what) -> y.kept(0, what));
        x.discharge(0, 3, 1);
        answers("kept(1, what)", new int[] {3, 0, 3, 1, 0, NONE}, what -> x.kept(1, what));
        h.due("kept(2, 0)", x.kept(2, 0), NONE);
        WrongTide sixty = Harness.told(most().replaceAll("lies s. b.;", "")
                + "gale 100;loads sf 0 wf 20;loads sf 1 wf 20;loads sf 2 wf 20;loads sf 3 wa 1;");
        h.due("gales(60)", sixty.gales(60), 60);
        h.due("60 are told", sixty.kept(0, 0) * 100 + sixty.kept(59, 0), 59);
        h.due("kept(60, 0)", sixty.kept(60, 0), NONE);
        h.due("gales(1)", sixty.gales(1), 1);
        h.due("the last 60 are told", sixty.kept(0, 0) * 100 + sixty.kept(59, 0), 160);
        h.due("has(8)", sixty.has(8), 60);
        answers("kept(59, what)", new int[] {60, 5, 3, 0, 2, NONE}, what -> sixty.kept(59, what));
        h.due("kept(60, 0)", sixty.kept(60, 0), NONE);
    }

    // ---- promises 33 to 36

    private void image() {
        h.topic("promise 33: how many bytes");
        h.due("without SHIPS", new WrongTide().image(), 3);
        h.due("without WARES", Harness.told("ship s holds 4 trims 0;ship t holds 2 trims 0;").image(), 5);
        h.due("without SHIPS, with WARES", Harness.told("ware w weighs 1 lifts 0;").image(), 3);
        for (int holds = 2; holds <= 4; holds++) {
            h.due("of " + holds + " HOLDS", Harness.told("ware w weighs 1 lifts 0;ship s holds " + holds + " trims 0;").image(), 4 + holds);
        }
        h.due("the most", Harness.told(most()).image(), 153);
    }

    private void octet() {
        h.topic("promise 34: NONE when there is none such");
        WrongTide x = Harness.told(most());
        h.due("ahead of any", x.octet(0), NONE);
        x.image();
        h.due("octet(0)", x.octet(0), 0);
        h.due("octet(2)", x.octet(2), 1);
        h.due("octet(127)", x.octet(127), 6);
        h.due("octet(152)", x.octet(152) >= 0, true);
        h.due("octet(153)", x.octet(153), NONE);
        outside("octet", NONE, 0, 16, WrongTide::octet);
        x.moor(0, NONE);
        h.due("the latest image() stays", x.octet(2), 1);
        x.image();
        h.due("the next one tells", x.octet(2), 0);
        Harness.harbour(x, "");
        h.due("a new harbour leaves it", x.octet(127), 6);
        h.due("image()", x.image(), 3);
        h.due("until the next one", x.octet(3), NONE);
    }

    /** What busy() looks like in an image, in HOUR 3: brig (a berth, 4 x 2 crates), hoy (a berth, 2 x 2 crates). */
    private static int[] picture() {
        return Harness.sealed(new int[] {0, 3, 1, 3, 0, 0, 0, 0, 0, 0, 20, 0, 0, 1, 0, 0, 0});
    }

    private static int[] changed(int at, int octet) {
        int[] row = picture();
        row[at] = octet;
        return Harness.sealed(row);
    }

    private void on() {
        h.topic("promise 35: true, all is as it tells, nothing is KEPT, no ACT can be undone");
        int[][] good = {picture(), changed(1, 255), changed(0, 1), changed(2, 0), changed(2, 2), changed(11, 2), changed(3, 20),
            changed(10, 0), changed(15, 20)};
        for (int[] row : good) {
            WrongTide x = Twins.busy();
            Harness.row(x, row);
            h.due("on() of " + Arrays.toString(row), x.on(), true);
            h.due("the tape went", x.end(1), false);
            h.due("HOUR", x.has(3), row[0] * 256 + row[1]);
            h.due("brig", x.ship(0, 2), row[2] - 1);
            h.due("hoy", x.ship(1, 2), row[11] - 1);
            h.due("nothing is KEPT", x.has(8), 0);
            h.due("kept(0, 0)", x.kept(0, 0), NONE);
            h.due("no ACT", x.has(9), 0);
            h.due("the seed stays", x.has(10), 99);
            h.due("status(5)", x.status(5), 0);
            h.due("image()", x.image(), 17);
            answers("as it tells, octet", row, x::octet);
            answers("rows stay, stowed", new int[] {1, 0, 0, NONE}, x::stowed);
        }
        int[] last = picture();
        last[0] = 39;
        last[1] = 15;
        WrongTide x = Twins.busy();
        Harness.row(x, Harness.sealed(last));
        h.due("HOUR 9999", x.on(), true);
        h.due("has(3)", x.has(3), 9999);
    }

    private void refusedOn(String why, int[] row) {
        busy.refusedRow("on(), " + why, 5, 0, row, x -> yes(x.on()));
    }

    private void onRefused() {
        h.topic("promise 35: false, refused (5), all staying (HOUR 9999, 20 crates of a WARE in a HOLD at most)");
        int[] hour = picture();
        hour[0] = 39;
        hour[1] = 16;
        refusedOn("HOUR 10000", Harness.sealed(hour));
        refusedOn("HOUR 10243", changed(0, 40));
        refusedOn("HOUR 65283", changed(0, 255));
        for (int at = 3; at < 16; at++) {
            if (at != 11) {
                refusedOn("21 crates at " + at, changed(at, 21));
                refusedOn("255 crates at " + at, changed(at, 255));
            }
        }
        int[] row = picture();
        refusedOn("nothing", new int[0]);
        refusedOn("two bytes", new int[2]);
        refusedOn("a byte less", Harness.sealed(Arrays.copyOf(row, 16)));
        refusedOn("a byte more", Harness.sealed(Arrays.copyOf(row, 18)));
        refusedOn("a byte more behind it", Arrays.copyOf(row, 18));
        refusedOn("1600 bytes", new int[1600]);
        for (int more = 1; more < 256; more += more < 3 || more > 250 ? 1 : 50) {
            int[] wrong = row.clone();
            wrong[16] = (wrong[16] + more) % 256;
            refusedOn("a last byte of " + wrong[16], wrong);
        }
        for (int at = 0; at < 16; at++) {
            int[] wrong = row.clone();
            wrong[at]++;
            refusedOn("another byte at " + at, wrong);
        }
    }

    private void onBerths() {
        h.topic("promise 35: BERTHS that there are, in none two");
        refusedOn("no such BERTH", changed(2, 3));
        refusedOn("no such BERTH", changed(11, 3));
        refusedOn("no such BERTH", changed(2, 7));
        refusedOn("no such BERTH", changed(2, 255));
        refusedOn("two in the first", changed(11, 1));
        int[] second = changed(2, 2);
        second[11] = 2;
        refusedOn("two in the second", Harness.sealed(second));
        int[] none = changed(2, 0);
        WrongTide x = Twins.busy();
        Harness.row(x, none);
        h.due("two in none", x.on(), true);
        h.due("lying", x.has(6), 0);
        int[] other = changed(2, 2);
        other[11] = 1;
        Harness.row(x, Harness.sealed(other));
        h.due("each in another's", x.on(), true);
        h.due("lying", x.has(6), 2);
        h.due("it need not be SAFE there", x.berth(1, 3), 0);
    }

    private void onNone() {
        h.topic("promise 35: of a HARBOUR without SHIPS, without WARES");
        WrongTide x = new WrongTide();
        h.due("an empty tape", x.on(), false);
        Harness.row(x, Harness.sealed(new int[] {1, 2, 0}));
        h.due("HOUR alone", x.on(), true);
        h.due("has(3)", x.has(3), 258);
        Harness.row(x, Harness.sealed(new int[] {1, 2, 0, 0}));
        h.due("a byte more", x.on(), false);
        h.due("status(5)", x.status(5), 2);
        WrongTide y = Harness.told("ship s holds 2 trims 0;berth b from 0 to 0;");
        Harness.row(y, Harness.sealed(new int[] {0, 0, 1, 0}));
        h.due("a BERTH alone", y.on(), true);
        h.due("ship(0, 2)", y.ship(0, 2), 0);
        Harness.row(y, Harness.sealed(new int[] {0, 0, 2, 0}));
        h.due("no such BERTH", y.on(), false);
        h.due("all stays", y.ship(0, 2), 0);
    }

    private void status() {
        h.topic("promise 36: NONE for others");
        WrongTide x = Twins.busy();
        answers("status", new int[] {0, 0, 0, 0, 0, 0, NONE, NONE}, x::status);
        outside("status", NONE, 0, 5, WrongTide::status);
    }

    private void statusEach() {
        h.topic("promise 36: how many were refused, each by its own");
        WrongTide x = fed(1600);
        x.feed(0, 0, 0, 0, 0);
        x.end(-1);
        answers("feed, end", new int[] {2, 0, 0, 0, 0, 0}, x::status);
        x.end(1);
        x.harbour();
        answers("harbour", new int[] {2, 1, 0, 0, 0, 0}, x::status);
        x.lade(9, 0, 0);
        x.discharge(9, 0, 0);
        x.shift(9, 0, 0, 1);
        answers("lade, discharge, shift", new int[] {2, 1, 3, 0, 0, 0}, x::status);
        x.moor(9, 0);
        x.hours(0);
        x.gales(0);
        answers("moor, hours, gales", new int[] {2, 1, 3, 3, 0, 0}, x::status);
        while (x.has(9) > 0) {
            x.undo();
        }
        x.undo();
        answers("undo", new int[] {2, 1, 3, 3, 1, 0}, x::status);
        x.seed(-1);
        x.stow(0);
        x.order(0);
        x.rode(0);
        x.on();
        answers("seed, stow, order, rode, on", new int[] {2, 1, 3, 3, 1, 5}, x::status);
        Harness.harbour(x, "");
        answers("a new harbour leaves them", new int[] {2, 1, 3, 3, 1, 5}, x::status);
        WrongTide y = Twins.busy();
        y.stowed(99);
        y.ordered(99);
        y.swaps(9, 9);
        y.rides(9, 9);
        y.kept(99, 0);
        y.octet(999);
        y.image();
        answers("questions are not refused", new int[6], y::status);
    }
}
