/**
 * The sentences of parts II and III of the document's Terms that name a bound, one method each: the last value that is
 * allowed and the first one that is not, what is empty and what is full.
 */
public final class EdgeTermsTest {
    private static final int NONE = WrongTide.NONE;
    /** A ship that rides at 100 all the time, in a berth that takes all heights. */
    private static final String CALM = "ware w weighs 1 lifts 0;ware v weighs 1 lifts 0;ship s holds 2 trims 999;"
            + "berth b from 0 to 9999;lies s b;rides 100;";

    private final Harness h = new Harness();

    public static void main(String[] args) {
        EdgeTermsTest test = new EdgeTermsTest();
        test.tides();
        test.acts();
        test.rows();
        test.h.finish("EdgeTermsTest");
    }

    private void tides() {
        hourAtFirst();
        waterAndMoon();
        foreAndAft();
        tipsCrateByCrate();
        level();
        ridesBySum();
        ridesWithout();
        safe();
        nowIsNow();
    }

    private void acts() {
        twentyCrates();
        lying();
        may();
        hourGoesBy();
        adrift();
        keptSixty();
        keptRows();
        galeDraws();
        firstCrate();
        twentyActs();
        everyActUndone();
        draws();
    }

    private void rows() {
        alike();
        stowedLeast();
        stowedFull();
        order();
        orderFull();
        berthed();
        swaps();
        swapsFull();
        swapsWhatIsThere();
        rode();
        rodeTides();
        image();
        imageOfOneWare();
        lastByte();
    }

    /** Sets the HOUR by an image of what is there now. */
    private void late(WrongTide x, int hour) {
        h.due("on() in HOUR " + hour, Harness.late(x, hour), true);
    }

    // ---- II

    private void hourAtFirst() {
        h.topic("It is HOUR 0 at first");
        h.due("of a new object", new WrongTide().has(3), 0);
        WrongTide x = Harness.told("water 10+hour;");
        h.due("has(3)", x.has(3), 0);
        h.due("has(4)", x.has(4), 10);
        x.hours(200);
        Harness.harbour(x, "water 20+hour;");
        h.due("of a new harbour", x.has(3), 0);
        h.due("its water", x.has(4), 20);
    }

    private void waterAndMoon() {
        h.topic("WATER and MOON are 0 .. 9999 (100, 0 without; below is 0, above 9999)");
        WrongTide none = Harness.told("");
        h.due("WATER without", none.has(4), 100);
        h.due("MOON without", none.has(5), 0);
        h.due("WATER without, in HOUR 9999", none.tide(9999, 0), 100);
        h.due("MOON without, in HOUR 9999", none.tide(9999, 1), 0);
        String[] sums = {"0-1", "0", "1", "9998", "9999", "9999+1", "9999*9999", "0-9999*9999"};
        int[] due = {0, 0, 1, 9998, 9999, 9999, 9999, 0};
        for (int k = 0; k < due.length; k++) {
            WrongTide x = Harness.told("water " + sums[k] + ";");
            WrongTide y = Harness.told("moon " + sums[k] + ";");
            h.due("water " + sums[k], x.has(4), due[k]);
            h.due("its moon", x.has(5), 0);
            h.due("moon " + sums[k], y.has(5), due[k]);
            h.due("its water", y.has(4), 100);
            h.due("what rides sees of it", Harness.told("ship s holds 2 trims 0;water " + sums[k] + ";rides water;").ship(0, 6), due[k]);
            h.due("what rides sees of it", Harness.told("ship s holds 2 trims 0;moon " + sums[k] + ";rides 5+moon*2-moon;").ship(0, 6),
                    Math.min(9999, due[k] + 5));
        }
    }

    private void foreAndAft() {
        h.topic("HOLDS 0 and 2 are fore, 1 and 3 aft");
        for (int hold = 0; hold < 4; hold++) {
            WrongTide x = Harness.told("ware w weighs 7 lifts 0;ship s holds 4 trims 0;loads s " + hold + " w 2;");
            h.due("tips with HOLD " + hold, x.tips(0), hold % 2 == 0 ? 14 : -14);
        }
    }

    private void tipsCrateByCrate() {
        h.topic("TIPS, below 0: less; what it weighs less what it lifts");
        String port = "ware w weighs 7 lifts 2;ware v weighs 1 lifts 9;ship s holds 2 trims 0;";
        h.due("empty", Harness.told(port).tips(0), 0);
        h.due("one fore", Harness.told(port + "loads s 0 w 1;").tips(0), 5);
        h.due("one aft", Harness.told(port + "loads s 1 w 1;").tips(0), -5);
        h.due("one that lifts, fore", Harness.told(port + "loads s 0 v 1;").tips(0), -8);
        h.due("one that lifts, aft", Harness.told(port + "loads s 1 v 1;").tips(0), 8);
        h.due("like ones fore and aft", Harness.told(port + "loads s 0 v 3;loads s 1 v 3;").tips(0), 0);
        StringBuilder text = new StringBuilder("ship s holds 4 trims 0;");
        for (char c = 'a'; c < 'g'; c++) {
            text.append("ware ").append(c).append(" weighs 99 lifts 0;loads s 0 ").append(c).append(" 20;loads s 2 ").append(c).append(" 20;");
        }
        h.due("the most", Harness.told(text.toString()).tips(0), 12 * 20 * 99);
        h.due("the least", Harness.told(text.toString().replace("weighs 99 lifts 0", "weighs 0 lifts 99")).tips(0), -12 * 20 * 99);
    }

    private void level() {
        h.topic("LEVEL, if that is from -trims to trims");
        for (int trims = 0; trims <= 2; trims++) {
            for (int tip = 0; tip <= 4; tip++) {
                for (int hold = 0; hold < 2; hold++) {
                    WrongTide x = Harness.told("ware w weighs 1 lifts 0;ship s holds 2 trims " + trims + ";loads s " + hold + " w " + tip + ";");
                    h.due("trims " + trims + ", tips " + x.tips(0), x.ship(0, 7), tip <= trims ? 1 : 0);
                }
            }
        }
        String most = "ware w weighs 50 lifts 0;ware v weighs 1 lifts 0;ship s holds 2 trims 999;loads s 0 w 19;loads s 2 w 0;";
        String four = most.replace("holds 2", "holds 4") + "loads s 2 w 1;loads s 1 v 1;";
        h.due("trims 999, tips 999", Harness.told(four).tips(0), 999);
        h.due("trims 999, tips 999", Harness.told(four).ship(0, 7), 1);
        h.due("trims 999, tips 1000", Harness.told(four + "loads s 1 v 0;").ship(0, 7), 0);
    }

    private void ridesBySum() {
        h.topic("It RIDES at the SUM of rides, 0 .. 9999");
        String[] sums = {"0-1", "0", "1", "9998", "9999", "9999+1", "9999*9999", "0-9999*9999"};
        int[] due = {0, 0, 1, 9998, 9999, 9999, 9999, 0};
        for (int k = 0; k < due.length; k++) {
            WrongTide x = Harness.told("ship s holds 2 trims 0;rides " + sums[k] + ";");
            h.due("ship(0, 6)", x.ship(0, 6), due[k]);
            h.due("rides(0, 200)", x.rides(0, 200), due[k]);
        }
        WrongTide may = Harness.told("ware w weighs 1 lifts 0;ship s holds 2 trims 999;berth b from 0 to 0;lies s b;rides 0-weight;may height=0;");
        h.due("may sees it so too", may.lade(0, 0, 0), 1);
    }

    private void ridesWithout() {
        h.topic("without: WATER, and what its crates lift times MOON by 100, less what they weigh; below is 0, above 9999");
        String port = "ware w weighs 1 lifts 0;ware v weighs 0 lifts 1;ship s holds 2 trims 999;";
        h.due("as heavy as WATER", Harness.told(port + "loads s 0 w 10;water 10;").ship(0, 6), 0);
        h.due("one heavier", Harness.told(port + "loads s 0 w 11;water 10;").ship(0, 6), 0);
        h.due("one lighter", Harness.told(port + "loads s 0 w 9;water 10;").ship(0, 6), 1);
        h.due("times 99 by 100", Harness.told(port + "loads s 0 v 1;water 10;moon 99;").ship(0, 6), 10);
        h.due("times 100 by 100", Harness.told(port + "loads s 0 v 1;water 10;moon 100;").ship(0, 6), 11);
        h.due("times 199 by 100", Harness.told(port + "loads s 0 v 1;water 10;moon 199;").ship(0, 6), 11);
        h.due("two times 50 by 100, not one by one", Harness.told(port + "loads s 0 v 1;loads s 1 v 1;water 10;moon 50;").ship(0, 6), 11);
        h.due("up to 9999", Harness.told(port + "loads s 0 v 1;water 9998;moon 100;").ship(0, 6), 9999);
        h.due("up to 10000", Harness.told(port + "loads s 0 v 2;water 9998;moon 100;").ship(0, 6), 9999);
        h.due("bounded only behind what it weighs", Harness.told(port + "loads s 0 v 2;loads s 1 w 1;water 9998;moon 100;").ship(0, 6), 9999);
        h.due("bounded only behind what it weighs", Harness.told(port + "loads s 0 v 2;loads s 1 w 2;water 9998;moon 100;").ship(0, 6), 9998);
        String heavy = "ware a weighs 0 lifts 99;ware b weighs 99 lifts 0;ware c weighs 99 lifts 0;ship s holds 4 trims 0;loads s 0 a 20;"
                + "loads s 0 b 20;loads s 1 b 20;loads s 2 b 20;loads s 3 b 20;loads s 0 c 20;loads s 1 c 20;loads s 2 c 20;loads s 3 c 20;";
        h.due("it is no SUM with a bound of a million", Harness.told(heavy + "water 0;moon 1000;").ship(0, 6), 19800 - 15840);
    }

    private void safe() {
        h.topic("SAFE in a BERTH, if it is LEVEL, and rides from its first to its second height");
        String ship = "ware w weighs 1 lifts 0;ship s holds 2 trims 3;rides 100;";
        int[][] heights = {{100, 100, 1}, {99, 100, 1}, {100, 101, 1}, {101, 101, 0}, {101, 9999, 0}, {0, 99, 0}, {99, 99, 0}, {0, 9999, 1}};
        for (int[] row : heights) {
            String berth = "berth b from " + row[0] + " to " + row[1] + ";";
            h.due(berth, Harness.told(ship + berth).berth(0, 3), row[2]);
            h.due(berth + " moor", Harness.told(ship + berth).moor(0, 0), row[2] == 1);
        }
        for (int hold = 0; hold < 2; hold++) {
            String berth = "berth b from 100 to 100;loads s " + hold + " w ";
            h.due("LEVEL by trims", Harness.told(ship + berth + "3;").berth(0, 3), 1);
            h.due("not LEVEL by one", Harness.told(ship + berth + "4;").berth(0, 3), 0);
        }
        String low = "ship s holds 2 trims 0;rides 0;berth b from 0 to 0;berth c from 1 to 1;";
        h.due("at 0", Harness.told(low).berth(0, 3) * 10 + Harness.told(low).berth(1, 3), 10);
        String high = "ship s holds 2 trims 0;rides 9999;berth b from 9999 to 9999;berth c from 9998 to 9998;";
        h.due("at 9999", Harness.told(high).berth(0, 3) * 10 + Harness.told(high).berth(1, 3), 10);
    }

    private void nowIsNow() {
        h.topic("what is asked of another HOUR leaves what is so now");
        WrongTide x = Harness.told("ware w weighs 0 lifts 0;ship s holds 2 trims 0;ship t holds 2 trims 0;berth b from 5 to 5;berth c from 5 to 5;"
                + "lies s b;water 5+hour;rides water;may hour=0 and height=5;");
        for (int k = 0; k < 7; k++) {
            x.tide(9999, 0);
            x.rides(0, 200);
            x.adrift(0);
            switch (k) {
                case 0 -> h.due("berth(0, 3)", x.berth(0, 3), 3);
                case 1 -> h.due("ship(1, 6)", x.ship(1, 6), 5);
                case 2 -> h.due("lade", x.lade(0, 0, 0), 1);
                case 3 -> h.due("moor", x.moor(1, 1), true);
                case 4 -> h.due("has(4)", x.has(4), 5);
                case 5 -> order(x, 1, new int[] {0, 0}, 0);
                default -> h.due("discharge", x.discharge(0, 0, 0), 0);
            }
        }
    }

    private void twentyCrates() {
        h.topic("20 crates of a WARE in a HOLD at most");
        WrongTide x = Harness.told(CALM + "loads s 0 w 18;");
        h.due("the 19th", x.lade(0, 0, 0), 19);
        h.due("the 20th", x.lade(0, 0, 0), 20);
        h.due("the 21st", x.lade(0, 0, 0), NONE);
        h.due("20 stay", x.crates(0, 0, 0), 20);
        h.due("another WARE in that HOLD", x.lade(0, 0, 1), 1);
        h.due("another HOLD", x.lade(0, 1, 0), 1);
        h.due("moved into a full one", x.shift(0, 1, 0, 0), false);
        h.due("discharged", x.discharge(0, 0, 0), 19);
        h.due("moved into one of 19", x.shift(0, 1, 0, 0), true);
        h.due("20 again", x.crates(0, 0, 0), 20);
        h.due("and none left", x.crates(0, 1, 0), 0);
    }

    private void lying() {
        h.topic("Laded, discharged is one crate, if the SHIP lies in a BERTH");
        WrongTide x = Harness.told(CALM + "loads s 0 w 5;");
        h.due("lade", x.lade(0, 0, 0), 6);
        h.due("discharge", x.discharge(0, 0, 0), 5);
        x.moor(0, NONE);
        h.due("lade in none", x.lade(0, 0, 0), NONE);
        h.due("discharge in none", x.discharge(0, 0, 0), NONE);
        h.due("moved in none", x.shift(0, 0, 0, 1), true);
        x.moor(0, 0);
        h.due("lade again", x.lade(0, 0, 0), 5);
        WrongTide unsafe = Harness.told("ware w weighs 1 lifts 0;ship s holds 2 trims 0;berth b from 0 to 0;lies s b;");
        h.due("it need not be SAFE", unsafe.lade(0, 0, 0), 1);
        h.due("nor LEVEL", unsafe.discharge(0, 0, 0), 0);
    }

    private void may() {
        h.topic("with it (or without it) the TEST of may holds (without it always)");
        WrongTide count = Harness.told(CALM + "may count<3 and count>0;");
        h.due("1", count.lade(0, 0, 0), 1);
        h.due("2", count.lade(0, 1, 0), 1);
        h.due("3", count.lade(0, 1, 0), NONE);
        h.due("back to 1", count.discharge(0, 0, 0), 0);
        h.due("back to 0", count.discharge(0, 1, 0), NONE);
        h.due("status(2)", count.status(2), 2);
        String[] tests = {"weight=4", "lift=5", "tip=0-1", "height=104", "hour=0", "count=1"};
        for (String test : tests) {
            String port = "ware w weighs 4 lifts 5;ship s holds 2 trims 0;berth b from 0 to 9999;lies s b;rides 100+weight;may ";
            WrongTide x = Harness.told(port + test + ";");
            h.due("may " + test + " with it", x.lade(0, 0, 0), 1);
            h.due("may " + test + " without it", x.discharge(0, 0, 0), test.equals("hour=0") ? 0 : NONE);
        }
        WrongTide full = Harness.told(CALM + "loads s 0 w 19;loads s 1 v 20;may count<41;");
        h.due("up to its bound", full.lade(0, 0, 0), 20);
        h.due("above it", full.lade(0, 0, 1), NONE);
        WrongTide down = Harness.told(CALM + "loads s 0 w 5;may count<4;");
        h.due("without it, it does not hold yet", down.discharge(0, 0, 0), NONE);
        WrongTide near = Harness.told(CALM + "loads s 0 w 4;may count<4;");
        h.due("without it, it holds", near.discharge(0, 0, 0), 3);
    }

    private void hourGoesBy() {
        h.topic("An HOUR goes by: it is the next one (9999 at most)");
        WrongTide x = Harness.told("water hour;");
        late(x, 9799);
        h.due("hours(200)", x.hours(200), 0);
        h.due("HOUR", x.has(3), 9999);
        h.due("hours(1)", x.hours(1), NONE);
        h.due("gales(1)", x.gales(1), NONE);
        h.due("HOUR", x.has(3), 9999);
        h.due("WATER", x.has(4), 9999);
        late(x, 9800);
        h.due("hours(200)", x.hours(200), NONE);
        h.due("gales(200)", x.gales(200), NONE);
        h.due("not one goes by", x.has(3), 9800);
        h.due("gales(199)", x.gales(199), 0);
        h.due("HOUR", x.has(3), 9999);
        h.due("status(3)", x.status(3), 4);
    }

    private void adrift() {
        h.topic("then each SHIP that lies in a BERTH and is not SAFE in it is ADRIFT: it lies in none");
        String port = "ship s holds 2 trims 0;ship t holds 2 trims 0;ship u holds 2 trims 0;berth b from 0 to 100;berth c from 0 to 100;"
                + "lies s b;lies u c;water ";
        WrongTide both = Harness.told(port + "100+hour;");
        h.due("each that lies", both.hours(1), 2);
        h.due("none lies", both.has(6), 0);
        h.due("not once more", both.hours(1), 0);
        WrongTide soon = Harness.told(port + "if(hour=2,101,100);");
        h.due("not ahead of it", soon.hours(1), 0);
        h.due("in that HOUR", soon.hours(1), 2);
        WrongTide now = Harness.told(port + "if(hour=0,101,100);");
        h.due("not SAFE now, but in the next HOUR", now.hours(1), 0);
        WrongTide tipped = Harness.told("ware w weighs 1 lifts 0;ship s holds 2 trims 1;berth b from 0 to 9999;lies s b;loads s 0 w 2;");
        h.due("not LEVEL", tipped.hours(1), 1);
        WrongTide level = Harness.told("ware w weighs 1 lifts 0;ship s holds 2 trims 2;berth b from 98 to 98;lies s b;loads s 0 w 2;");
        h.due("LEVEL by trims, at both heights", level.hours(200), 0);
        WrongTide gales = Harness.told(port + "100+hour;");
        gales.gales(1);
        h.due("by the seed too", gales.has(6), 0);
    }

    private void keptSixty() {
        h.topic("KEPT (the last 60 are told)");
        WrongTide x = Harness.told(CALM);
        h.due("nothing", x.has(8), 0);
        h.due("nothing", x.kept(0, 0), NONE);
        for (int k = 1; k <= 62; k++) {
            x.hours(1);
            int answer = k % 2 == 1 ? x.lade(0, 0, 0) : x.discharge(0, 0, 0);
            h.due("lade or discharge", answer, k % 2);
            h.due("told", x.has(8), Math.min(k, 60));
            h.due("the oldest", x.kept(0, 0), Math.max(1, k - 59));
            h.due("the newest", x.kept(Math.min(k, 60) - 1, 0), k);
            h.due("behind it", x.kept(Math.min(k, 60), 0), NONE);
        }
        h.due("undo", x.undo(), true);
        h.due("60 are told as they were", x.has(8), 60);
        h.due("the oldest is back", x.kept(0, 0), 2);
        h.due("the newest is gone", x.kept(59, 0), 61);
    }

    private void keptRows() {
        h.topic("HOUR, SHIP, HOLD, WARE, 1 laded, 0 discharged, 2 lost");
        StringBuilder text = new StringBuilder();
        for (char c = 'a'; c < 'g'; c++) {
            text.append("ware w").append(c).append(" weighs 0 lifts 0;ship s").append(c).append(" holds 4 trims 0;");
        }
        WrongTide x = Harness.told(text + "berth b from 0 to 9999;lies sf b;gale 100;loads sf 3 wf 3;");
        late(x, 9998);
        x.lade(5, 3, 5);
        x.discharge(5, 3, 5);
        x.moor(5, NONE);
        x.gales(1);
        int[] what = {1, 0, 2};
        for (int k = 0; k < 3; k++) {
            int[] due = {9998, 5, 3, 5, what[k], NONE};
            for (int j = 0; j < due.length; j++) {
                h.due("kept(" + k + ", " + j + ")", x.kept(k, j), due[j]);
            }
        }
        h.due("three rows", x.has(8), 3);
        h.due("HOUR", x.has(3), 9999);
        WrongTide shifted = Harness.told(CALM + "loads s 0 w 1;");
        shifted.shift(0, 0, 0, 1);
        h.due("moved is not KEPT", shifted.has(8), 0);
        WrongTide refused = Harness.told(CALM);
        refused.discharge(0, 0, 0);
        h.due("refused is not KEPT", refused.has(8), 0);
    }

    private void galeDraws() {
        h.topic("for each SHIP that lies in none a DRAW of 100: below gale it loses a crate");
        int[][] due = {{1, 18}, {0, 92}, {Integer.MAX_VALUE, 99}};
        for (int[] row : due) {
            h.due("gale above the DRAW", galeOf(row[1] + 1, row[0]), 1);
            h.due("gale at the DRAW", galeOf(row[1], row[0]), 0);
        }
        int seed = 0;
        while (Harness.next(seed) / 64 % 100 != 0) {
            seed++;
        }
        h.due("gale 1, a DRAW of 0", galeOf(1, seed), 1);
        h.due("gale 0, a DRAW of 0", galeOf(0, seed), 0);
        h.due("gale 100, a DRAW of 99", galeOf(100, Integer.MAX_VALUE), 1);
        WrongTide x = Harness.told("ware w weighs 0 lifts 0;ship s holds 2 trims 0;ship t holds 2 trims 0;ship u holds 2 trims 0;"
                + "berth b from 0 to 9999;lies t b;loads t 0 w 9;loads u 0 w 9;gale 100;");
        h.due("s is empty, t lies, u loses", x.gales(1), 1);
        h.due("t has all", x.ship(1, 5), 9);
        h.due("two DRAWS, by ships", x.has(10), Harness.next(Harness.next(1)));
        WrongTide still = Harness.told("ship s holds 2 trims 0;");
        still.gales(3);
        h.due("without gale a DRAW too", still.has(10), Harness.next(Harness.next(Harness.next(1))));
        still.hours(3);
        h.due("hours() has none", still.has(10), Harness.next(Harness.next(Harness.next(1))));
    }

    private int galeOf(int gale, int seed) {
        WrongTide x = Harness.told("ware w weighs 0 lifts 0;ship s holds 2 trims 0;loads s 0 w 20;gale " + gale + ";");
        h.due("seed(" + seed + ")", x.seed(seed), true);
        return x.gales(1);
    }

    private void firstCrate() {
        h.topic("it loses the first crate that it has (by HOLDS, then by WARES), if any; ahead of an HOUR");
        WrongTide x = Harness.told("ware w weighs 0 lifts 0;ware v weighs 0 lifts 0;ship s holds 4 trims 0;"
                + "loads s 1 w 1;loads s 0 v 2;loads s 3 v 1;gale 100;");
        int[][] due = {{0, 1}, {0, 1}, {1, 0}, {3, 1}};
        for (int k = 0; k < due.length; k++) {
            h.due("lost", x.gales(1), 1);
            h.due("its HOUR", x.kept(k, 0), k);
            h.due("its HOLD", x.kept(k, 2), due[k][0]);
            h.due("its WARE", x.kept(k, 3), due[k][1]);
        }
        h.due("empty", x.has(7), 0);
        h.due("nothing to lose", x.gales(200), 0);
        h.due("nothing KEPT of it", x.has(8), 4);
        WrongTide loose = Harness.told("ware w weighs 0 lifts 0;ship s holds 2 trims 0;loads s 0 w 9;berth b from 0 to 100;lies s b;"
                + "water 100+hour;gale 100;");
        h.due("it lies ahead of the first HOUR", loose.gales(1), 0);
        h.due("and is ADRIFT behind it", loose.has(6), 0);
        h.due("so it loses ahead of the next one", loose.gales(1), 1);
    }

    private void twentyActs() {
        h.topic("The last 20 can be undone");
        WrongTide x = Harness.told(CALM);
        for (int k = 1; k <= 22; k++) {
            x.hours(k);
            h.due("ACTS", x.has(9), Math.min(k, 20));
        }
        int hour = 22 * 23 / 2;
        h.due("HOUR", x.has(3), hour);
        for (int k = 22; k > 2; k--) {
            h.due("undo", x.undo(), true);
            hour -= k;
            h.due("HOUR", x.has(3), hour);
            h.due("ACTS", x.has(9), k - 3);
        }
        h.due("the 21st", x.undo(), false);
        h.due("HOUR", x.has(3), 3);
        x.hours(1);
        h.due("one more", x.undo() && !x.undo(), true);
        h.due("status(4)", x.status(4), 2);
    }

    private void everyActUndone() {
        h.topic("ACTS: laded, discharged, moved; takes a BERTH, or leaves it; HOURS, by the seed");
        WrongTide x = Harness.told(CALM + "loads s 0 w 5;gale 100;ship t holds 2 trims 0;loads t 0 v 3;");
        int[] acts = {x.lade(0, 0, 0), x.discharge(0, 0, 0), x.shift(0, 0, 0, 1) ? 1 : 0, x.moor(0, NONE) ? 1 : 0, x.moor(0, 0) ? 1 : 0,
            x.hours(2), x.gales(2)};
        int[] due = {6, 5, 1, 1, 1, 0, 2};
        for (int k = 0; k < acts.length; k++) {
            h.due("act " + k, acts[k], due[k]);
        }
        h.due("seven ACTS", x.has(9), 7);
        x.seed(5);
        x.image();
        Harness.row(x, 0);
        x.stow(0);
        Harness.row(x, 0, 0);
        x.order(0);
        h.due("the seed, an image, rows are none", x.has(9), 7);
        x.lade(9, 0, 0);
        h.due("what is refused is none", x.has(9), 7);
        int[][] before = {{2, 1, 8, 2, 0}, {0, 1, 8, 2, 0}, {0, 0, 8, 2, 0}, {0, 1, 8, 2, 0}, {0, 1, 8, 2, 5}, {0, 1, 9, 1, 6}, {0, 1, 8, 0, 5}};
        for (int k = 0; k < before.length; k++) {
            h.due("undo", x.undo(), true);
            h.due("HOUR", x.has(3), before[k][0]);
            h.due("lying", x.has(6), before[k][1]);
            h.due("crates", x.has(7), before[k][2]);
            h.due("KEPT", x.has(8), before[k][3]);
            if (k > 3) {
                h.due("crates(0, 0, 0)", x.crates(0, 0, 0), before[k][4]);
            }
        }
        h.due("the seed stays", x.has(10), 5);
        h.due("stowed stays", x.stowed(0), 1);
        h.due("ordered stays", x.ordered(0), 0);
    }

    private void draws() {
        h.topic("x becomes (1103515245 x + 12345) mod 2 to the 31");
        long[][] due = {{1, 1103527590L}, {0, 12345}, {Integer.MAX_VALUE, 1043980748L}, {1103527590L, 377401575L}};
        for (long[] row : due) {
            WrongTide x = Harness.told("ship s holds 2 trims 0;");
            x.seed((int) row[0]);
            x.gales(1);
            h.due("from " + row[0], x.has(10), row[1]);
        }
    }

    // ---- III

    private void alike() {
        h.topic("ALIKE in an HOUR in which they ride at one height");
        String port = "ware w weighs 1 lifts 0;ship s holds 2 trims 0;ship t holds 2 trims 0;loads t 0 w 1;";
        h.due("never", Harness.told(port).alike(0, 1, 0), NONE);
        h.due("one apart", Harness.told(port + "rides 5+weight;").alike(0, 1, 0), NONE);
        h.due("both bounded at 9999", Harness.told(port + "rides 9999+weight;").alike(0, 1, 0), 0);
        h.due("both bounded at 0", Harness.told(port + "rides 0-weight;").alike(0, 1, 0), 0);
        h.due("in 200", Harness.told(port + "rides if(hour=200,1,weight);").alike(0, 1, 0), 200);
        h.due("in 201", Harness.told(port + "rides if(hour=201,1,weight);").alike(0, 1, 0), NONE);
    }

    private void stow(WrongTide x, int ship, int want, int[] row, int... holds) {
        Harness.row(x, row);
        h.due("stow", x.stow(ship), want);
        for (int k = 0; k <= 6; k++) {
            h.due("stowed(" + k + ")", x.stowed(k), k < holds.length ? holds[k] : NONE);
        }
    }

    private void stowedLeast() {
        h.topic("STOWED: so that it TIPS least to either side; of like ones the first, crate by crate");
        String port = "ware w weighs 5 lifts 0;ware v weighs 0 lifts 3;ware n weighs 1 lifts 1;ship s holds 2 trims 0;ship t holds 4 trims 0;";
        WrongTide x = Harness.told(port);
        stow(x, 0, 5, new int[] {0}, 0);
        stow(x, 0, 3, new int[] {1}, 0);
        stow(x, 0, 0, new int[] {2}, 0);
        stow(x, 0, 2, new int[] {0, 1}, 0, 0);
        stow(x, 0, 0, new int[] {0, 0}, 0, 1);
        stow(x, 0, 0, new int[] {0, 0, 0, 0, 0, 0}, 0, 0, 0, 1, 1, 1);
        stow(x, 1, 0, new int[] {0, 0, 0, 0, 0, 0}, 0, 0, 0, 1, 1, 1);
        stow(x, 1, 0, new int[] {2, 2, 2, 2, 2, 2}, 0, 0, 0, 0, 0, 0);
        WrongTide aft = Harness.told(port + "loads s 1 w 1;");
        stow(aft, 0, 0, new int[] {0}, 0);
        stow(aft, 0, 2, new int[] {1}, 1);
        WrongTide fore = Harness.told(port + "loads s 0 w 1;");
        stow(fore, 0, 0, new int[] {0}, 1);
        stow(fore, 0, 2, new int[] {1}, 0);
        WrongTide heavy = Harness.told(port + "loads s 0 w 6;loads t 0 w 6;");
        stow(heavy, 0, 0, new int[] {0, 0, 0, 0, 0, 0}, 1, 1, 1, 1, 1, 1);
        stow(heavy, 1, 0, new int[] {0, 0, 0, 0, 0, 0}, 1, 1, 1, 1, 1, 1);
        WrongTide barred = Harness.told(port + "may not all;");
        stow(barred, 0, 5, new int[] {0}, 0);
        h.due("nothing goes in", barred.has(7), 0);
    }

    private void stowedFull() {
        h.topic("STOWED: no HOLD with more than 20 of a WARE");
        String port = "ware w weighs 1 lifts 0;ware v weighs 1 lifts 0;ship s holds 2 trims 0;";
        stow(Harness.told(port + "loads s 0 w 20;loads s 1 w 19;"), 0, 0, new int[] {0}, 1);
        stow(Harness.told(port + "loads s 0 w 19;loads s 1 w 20;"), 0, 0, new int[] {0}, 0);
        stow(Harness.told(port + "loads s 0 w 20;loads s 1 w 19;"), 0, NONE, new int[] {0, 0});
        stow(Harness.told(port + "loads s 0 w 20;loads s 1 w 20;"), 0, NONE, new int[] {0});
        stow(Harness.told(port + "loads s 0 w 20;loads s 1 w 20;"), 0, 1, new int[] {1}, 0);
        stow(Harness.told(port + "loads s 0 w 14;loads s 1 w 20;"), 0, 0, new int[] {0, 0, 0, 0, 0, 0}, 0, 0, 0, 0, 0, 0);
        stow(Harness.told(port + "loads s 0 w 15;loads s 1 w 20;"), 0, NONE, new int[] {0, 0, 0, 0, 0, 0});
        stow(Harness.told(port + "loads s 0 w 15;loads s 1 w 20;"), 0, 1, new int[] {0, 0, 0, 0, 0, 1}, 0, 0, 0, 0, 0, 0);
        WrongTide four = Harness.told("ware w weighs 1 lifts 0;ship s holds 4 trims 0;loads s 0 w 18;loads s 1 w 18;");
        stow(four, 0, 0, new int[] {0, 0, 0, 0, 0, 0}, 0, 0, 1, 1, 2, 3);
        WrongTide three = Harness.told("ware w weighs 1 lifts 0;ship s holds 3 trims 0;loads s 0 w 20;loads s 1 w 20;loads s 2 w 20;");
        stow(three, 0, NONE, new int[] {0});
    }

    private void order(WrongTide x, int want, int[] row, int... crates) {
        Harness.row(x, row);
        h.due("order", x.order(0), want);
        for (int k = 0; k <= 6; k++) {
            h.due("ordered(" + k + ")", x.ordered(k), k < crates.length ? crates[k] : NONE);
        }
    }

    private void order() {
        h.topic("ORDER: SAFE in its BERTH now behind each of them, and may holds; the first such");
        String port = "ware w weighs 1 lifts 0;ware v weighs 2 lifts 0;ship s holds 2 trims 1;berth b from 90 to 100;lies s b;";
        order(Harness.told(port), 1, new int[] {0, 0}, 0);
        order(Harness.told(port), 0, new int[] {0, 1});
        order(Harness.told(port), 1, new int[] {0, 0, 0, 0, 1, 0, 1, 0}, 0, 2, 1, 3);
        order(Harness.told(port), 1, new int[] {0, 1, 1, 0}, 1, 0);
        order(Harness.told(port), 0, new int[] {0, 0, 0, 0});
        order(Harness.told(port + "loads s 0 w 2;"), 1, new int[] {1, 0}, 0);
        order(Harness.told(port + "loads s 0 w 2;"), 0, new int[] {0, 0, 1, 0, 1, 0, 1, 0, 0, 0, 0, 0});
        order(Harness.told(port + "loads s 0 w 5;loads s 1 w 4;"), 1, new int[] {1, 0}, 0);
        order(Harness.told(port + "loads s 0 w 5;loads s 1 w 5;"), 0, new int[] {1, 0});
        String wide = port.replace("trims 1", "trims 99");
        order(Harness.told(wide + "loads s 0 w 4;"), 1, new int[] {0, 0, 0, 0, 0, 0, 0, 0, 0, 0, 0, 0}, 0, 1, 2, 3, 4, 5);
        order(Harness.told(wide + "loads s 0 w 5;"), 0, new int[] {0, 0, 0, 0, 0, 0, 0, 0, 0, 0, 0, 0});
        order(Harness.told(wide + "may count<3;"), 1, new int[] {0, 0, 0, 0}, 0, 1);
        order(Harness.told(wide + "may count<3;"), 0, new int[] {0, 0, 0, 0, 0, 0});
        order(Harness.told(wide + "may count=1 and tip=2 or count=2;"), 1, new int[] {0, 0, 0, 1}, 1, 0);
        WrongTide late = Harness.told(wide + "may hour=0;");
        order(late, 1, new int[] {0, 0}, 0);
        late.hours(1);
        order(late, 0, new int[] {0, 0});
    }

    private void orderFull() {
        h.topic("ORDER: 20 crates of a WARE in a HOLD at most");
        order(Harness.told(CALM + "loads s 0 w 19;"), 1, new int[] {0, 0}, 0);
        order(Harness.told(CALM + "loads s 0 w 20;"), 0, new int[] {0, 0});
        order(Harness.told(CALM + "loads s 0 w 14;"), 1, new int[] {0, 0, 0, 0, 0, 0, 0, 0, 0, 0, 0, 0}, 0, 1, 2, 3, 4, 5);
        order(Harness.told(CALM + "loads s 0 w 15;"), 0, new int[] {0, 0, 0, 0, 0, 0, 0, 0, 0, 0, 0, 0});
        order(Harness.told(CALM + "loads s 0 w 15;"), 1, new int[] {0, 0, 0, 0, 0, 0, 0, 0, 0, 0, 0, 1}, 0, 1, 2, 3, 4, 5);
        WrongTide x = Harness.told(CALM + "loads s 0 w 20;");
        order(x, 0, new int[] {0, 0});
        h.due("that is not refused", x.status(5), 0);
    }

    private void berthed(String text, int many, int... berths) {
        WrongTide x = Harness.told(text);
        h.due("how many lie", x.berthed(0, NONE), many);
        for (int ship = 0; ship < berths.length; ship++) {
            h.due("berth of " + ship, x.berthed(0, ship), berths[ship]);
        }
        h.due("one ship more", x.berthed(0, berths.length), WrongTide.NOTHING);
    }

    private void berthed() {
        h.topic("BERTHED: so that most lie; of like ones the first by SHIPS (each the first BERTH; none behind all)");
        berthed("", 0);
        berthed("ship s holds 2 trims 0;", 0, NONE);
        berthed("berth b from 0 to 9999;", 0);
        String two = "ship s holds 2 trims 0;ship t holds 2 trims 0;";
        berthed(two + "berth b from 100 to 100;", 1, 0, NONE);
        berthed(two + "berth b from 101 to 101;berth c from 100 to 100;berth d from 0 to 100;lies t c;", 2, 1, 2);
        String weights = "ware w weighs 10 lifts 0;ship s holds 2 trims 99;ship t holds 2 trims 99;ship u holds 2 trims 99;"
                + "loads t 0 w 1;loads u 0 w 2;";
        berthed(weights + "berth a from 80 to 100;berth b from 90 to 100;berth c from 100 to 100;", 3, 2, 1, 0);
        berthed(weights + "berth a from 80 to 100;berth b from 90 to 100;", 2, 0, 1, NONE);
        berthed(weights + "berth a from 80 to 80;berth b from 80 to 80;", 1, NONE, NONE, 0);
        berthed(weights + "berth a from 100 to 100;berth b from 0 to 9999;berth c from 90 to 100;", 3, 0, 2, 1);
        String tipped = weights.replace("ship t holds 2 trims 99", "ship t holds 2 trims 9");
        berthed(tipped + "berth a from 90 to 90;berth b from 90 to 90;", 0, NONE, NONE, NONE);
        berthed(two + "rides 0;berth b from 1 to 1;", 0, NONE, NONE);
        berthed(two + "rides 0;berth b from 1 to 1;berth c from 0 to 0;", 1, 1, NONE);
        StringBuilder six = new StringBuilder();
        for (char c = 'a'; c < 'g'; c++) {
            six.append("ship s").append(c).append(" holds 2 trims 0;berth b").append(c).append(" from 100 to 100;");
        }
        berthed(six.toString(), 6, 0, 1, 2, 3, 4, 5);
        WrongTide anew = Harness.told(six.toString());
        h.due("six lie", anew.berthed(0, NONE), 6);
        Harness.harbour(anew, "ship s holds 2 trims 0;ship t holds 2 trims 0;berth b from 101 to 101;berth c from 100 to 100;");
        h.due("in a new harbour", anew.berthed(0, NONE), 1);
        h.due("in a new harbour", anew.berthed(0, 0), 1);
        h.due("in a new harbour", anew.berthed(0, 1), NONE);
        berthed(six.toString().replace("berth bf from 100 to 100", "berth bf from 101 to 101"), 5, 0, 1, 2, 3, 4, NONE);
    }

    private void swaps(String text, int want) {
        WrongTide x = Harness.told(text);
        h.due("swaps(0, 1) of " + text, x.swaps(0, 1), want);
        h.due("swaps(1, 0) of " + text, x.swaps(1, 0), want);
    }

    private void swaps() {
        h.topic("SWAPS: the fewest (2 at most) so that both are LEVEL");
        String two = "ware w weighs 4 lifts 0;ware v weighs 1 lifts 0;ship s holds 2 trims 0;ship t holds 2 trims 0;";
        swaps(two, 0);
        swaps(two + "loads s 0 w 1;loads s 1 w 1;", 0);
        swaps(two + "loads s 0 w 1;", NONE);
        swaps(two + "loads s 0 w 1;loads s 1 v 1;loads t 0 v 1;loads t 1 w 1;", 1);
        swaps(two + "loads s 0 w 2;loads s 1 v 2;loads t 0 v 2;loads t 1 w 2;", 2);
        swaps(two + "loads s 0 w 3;loads s 1 v 3;loads t 0 v 3;loads t 1 w 3;", NONE);
        String slack = two.replace("ship t holds 2 trims 0", "ship t holds 2 trims 3");
        swaps(slack + "loads s 0 w 1;loads s 1 v 1;loads t 0 v 1;loads t 1 v 1;", 1);
        swaps(slack.replace("trims 3", "trims 2") + "loads s 0 w 1;loads s 1 v 1;loads t 0 v 1;loads t 1 v 1;", NONE);
        swaps(slack.replace("trims 3", "trims 4") + "loads s 0 w 1;loads s 1 v 1;loads t 1 v 1;", 1);
        swaps(slack + "loads s 0 w 1;loads s 1 v 1;loads t 1 v 1;", NONE);
        String then = "ware p weighs 5 lifts 0;ware r weighs 2 lifts 0;ware q weighs 1 lifts 0;ware x weighs 3 lifts 0;"
                + "ship s holds 2 trims 0;ship t holds 2 trims 999;";
        // p for x, then q for that p: the second one is of what is there then.
        swaps(then + "loads s 0 p 1;loads s 0 r 1;loads s 1 q 1;loads t 0 x 1;", 2);
        String holds = two.replace("ship s holds 2", "ship s holds 4").replace("ship t holds 2", "ship t holds 4");
        swaps(holds + "loads s 2 w 1;loads s 3 v 1;loads t 2 v 1;loads t 3 w 1;", 1);
    }

    private void swapsFull() {
        h.topic("SWAPS: no HOLD with more than 20 of a WARE");
        String port = "ware w weighs 4 lifts 0;ware v weighs 1 lifts 0;ware y weighs 1 lifts 0;ship s holds 2 trims 0;ship t holds 2 trims 999;"
                + "loads t 0 v 1;loads s 0 w 1;loads s 1 v 20;loads s 1 y 1;";
        swaps(port + "loads s 0 v 19;loads s 0 y 1;", 1);
        swaps(port + "loads s 0 v 20;", NONE);
        String other = "ware w weighs 4 lifts 0;ware v weighs 1 lifts 0;ware y weighs 1 lifts 0;ship s holds 2 trims 0;ship t holds 2 trims 999;"
                + "loads s 0 w 20;loads s 0 y 4;loads s 1 w 20;loads s 1 y 1;loads t 0 v 1;loads t 0 w ";
        swaps(other + "19;", 1);
        swaps(other + "20;", NONE);
    }

    private void swapsWhatIsThere() {
        h.topic("SWAPS: one behind the other, of what is there then");
        String wares = "ware w weighs 4 lifts 0;ware v weighs 1 lifts 0;ware y weighs 2 lifts 0;";
        String back = "ware y weighs 2 lifts 0;ware v weighs 1 lifts 0;ware w weighs 4 lifts 0;";
        String ships = "ship s holds 2 trims 0;ship t holds 2 trims 999;";
        String[] orders = {wares + ships, back + ships, back.replace("holds 2", "holds 4") + ships};
        for (String port : orders) {
            swaps(port + "loads s 0 w 2;loads s 1 y 1;loads t 0 v 2;", 2);
            swaps(port + "loads s 1 w 2;loads s 0 y 1;loads t 0 v 2;", 2);
            swaps(port + "loads s 1 w 2;loads s 0 y 1;loads t 1 v 2;", 2);
            swaps(port + "loads s 0 w 2;loads s 1 y 1;loads t 0 v 1;", NONE);
            swaps(port + "loads s 0 w 2;loads s 1 y 1;loads t 0 v 1;loads t 1 v 1;", 2);
            swaps(port + "loads s 0 w 1;loads s 0 y 1;loads t 0 v 2;", NONE);
        }
        String other = wares + "ship u holds 4 trims 0;ship t holds 4 trims 999;ship s holds 4 trims 0;ship o holds 4 trims 0;";
        WrongTide third = Harness.told(other + "loads s 0 w 2;loads s 1 y 1;loads u 0 v 9;loads u 1 w 9;loads o 0 v 9;loads o 1 w 9;");
        h.due("crates of a third SHIP are none of theirs", third.swaps(1, 2), NONE);
        h.due("crates of a third SHIP are none of theirs", third.swaps(2, 1), NONE);
        String six = wares + "ship a holds 2 trims 0;ship b holds 2 trims 0;ship c holds 2 trims 0;ship d holds 2 trims 0;"
                + "ship t holds 4 trims 999;ship s holds 4 trims 0;loads s 2 w 2;loads s 3 y 1;loads t 3 v ";
        h.due("the last two SHIPS", Harness.told(six + "2;").swaps(4, 5), 2);
        h.due("the last two SHIPS", Harness.told(six + "2;").swaps(5, 4), 2);
        h.due("the last two SHIPS", Harness.told(six + "1;").swaps(4, 5), NONE);
        h.due("the last two SHIPS", Harness.told(six + "1;").swaps(5, 4), NONE);
        String lifts = "ware w weighs 0 lifts 5;ware v weighs 3 lifts 0;ware y weighs 1 lifts 1;ship s holds 2 trims 0;ship t holds 2 trims 0;";
        swaps(lifts + "loads s 0 w 1;loads s 1 v 1;loads t 0 v 1;loads t 1 w 1;", 1);
        swaps(lifts + "loads s 0 w 2;loads s 1 v 2;loads t 0 v 2;loads t 1 w 2;", 2);
        swaps(lifts.replace("holds 2", "holds 3") + "loads s 2 w 1;loads s 1 v 1;loads t 2 v 1;loads t 1 w 1;", 1);
        swaps(lifts + "loads s 0 w 1;loads s 1 y 1;loads t 0 y 1;loads t 1 w 1;", 1);
        swaps(lifts + "loads s 0 y 1;loads s 1 v 1;loads t 0 v 1;loads t 1 y 1;", 1);
    }

    private void rode() {
        h.topic("RODE: a WARE and how many crates of it (1 .. 20), all in HOLD 0");
        WrongTide x = Harness.told("ware w weighs 1 lifts 0;ship s holds 2 trims 0;loads s 0 w 7;loads s 1 w 3;rides weight;");
        for (int height = 0; height <= 22; height++) {
            Harness.row(x, 0, 0, 0, height);
            h.due("rode at " + height, x.rode(0), height >= 1 && height <= 20 ? 1 : 0);
        }
        WrongTide tip = Harness.told("ware w weighs 1 lifts 0;ware v weighs 0 lifts 1;ship s holds 2 trims 0;rides 100+tip;");
        Harness.row(tip, 0, 0, 0, 120);
        h.due("fore", tip.rode(0), 1);
        Harness.row(tip, 0, 0, 0, 80);
        h.due("what lifts", tip.rode(0), 1);
        StringBuilder six = new StringBuilder("ship s holds 2 trims 0;rides 9999;");
        for (char c = 'a'; c < 'g'; c++) {
            six.append("ware ").append(c).append(" weighs 0 lifts 0;");
        }
        WrongTide all = Harness.told(six.toString());
        Harness.row(all, 39, 15, 39, 15);
        h.due("all pairs", all.rode(0), 120);
        WrongTide none = Harness.told("ship s holds 2 trims 0;");
        Harness.row(none, 0, 0, 0, 100);
        h.due("without WARES", none.rode(0), 0);
        WrongTide each = Harness.told("ware w weighs 1 lifts 0;ship s holds 2 trims 0;rides max(weight,hour);");
        Harness.row(each, 0, 5, 0, 5);
        h.due("1 to 5", each.rode(0), 5);
        Harness.row(each, 0, 5, 0, 5, 0, 3, 0, 4);
        h.due("in each of these HOURS", each.rode(0), 1);
        Harness.row(each, 0, 3, 0, 4, 0, 5, 0, 6);
        h.due("in one alone", each.rode(0), 0);
    }

    private void rodeTides() {
        h.topic("RODE: it rides so in each of these HOURS, by WATER and MOON of each");
        WrongTide x = Harness.told("ware w weighs 1 lifts 2;ship s holds 2 trims 0;water 100+hour;moon 10*hour;rides water+weight*moon;");
        Harness.row(x, 0, 1, 0, 131, 0, 5, 0, 255);
        h.due("three", x.rode(0), 1);
        Harness.row(x, 0, 5, 0, 255, 0, 1, 0, 131);
        h.due("three, told the other way", x.rode(0), 1);
        Harness.row(x, 0, 1, 0, 131, 0, 5, 0, 254);
        h.due("not in the second HOUR", x.rode(0), 0);
        Harness.row(x, 0, 1, 0, 130, 0, 5, 0, 255);
        h.due("not in the first HOUR", x.rode(0), 0);
        Harness.row(x, 0, 0, 0, 100);
        h.due("any, in HOUR 0", x.rode(0), 20);
        WrongTide plain = Harness.told("ware w weighs 1 lifts 2;ship s holds 2 trims 0;water 100+hour;moon 100*hour;");
        Harness.row(plain, 0, 0, 0, 93, 0, 1, 0, 108, 0, 2, 0, 123);
        h.due("seven, without rides", plain.rode(0), 1);
        Harness.row(plain, 0, 0, 0, 93, 0, 1, 0, 108, 0, 2, 0, 124);
        h.due("none, without rides", plain.rode(0), 0);
        x.hours(3);
        Harness.row(x, 0, 1, 0, 131);
        h.due("HOURS that went by", x.rode(0), 1);
        int[] ten = new int[40];
        for (int hour = 0; hour < 10; hour++) {
            int height = 100 + hour + 3 * 10 * hour;
            ten[4 * hour + 1] = hour;
            ten[4 * hour + 2] = height / 256;
            ten[4 * hour + 3] = height % 256;
        }
        Harness.row(x, ten);
        h.due("ten HOURS", x.rode(0), 1);
        ten[39]++;
        Harness.row(x, ten);
        h.due("ten HOURS, not in the last one", x.rode(0), 0);
    }

    private void image() {
        h.topic("AN IMAGE: HOUR (two bytes, the higher first); the BERTH and 1 (0: none); crates");
        int[][] hours = {{0, 0, 0}, {255, 0, 255}, {256, 1, 0}, {9999, 39, 15}};
        for (int[] row : hours) {
            WrongTide x = new WrongTide();
            late(x, row[0]);
            h.due("image()", x.image(), 3);
            h.due("the higher byte in HOUR " + row[0], x.octet(0), row[1]);
            h.due("the lower byte in HOUR " + row[0], x.octet(1), row[2]);
        }
        StringBuilder text = new StringBuilder();
        for (char c = 'a'; c < 'g'; c++) {
            text.append("berth b").append(c).append(" from 0 to 9999;");
        }
        String ships = "ware w weighs 1 lifts 0;ware v weighs 1 lifts 0;ship s holds 2 trims 0;ship t holds 3 trims 0;ship u holds 2 trims 0;";
        WrongTide x = Harness.told(text + ships + "lies s bf;lies u ba;loads s 0 w 20;loads s 1 v 1;loads t 2 v 3;loads u 0 v 4;loads u 1 w 5;");
        int[] due = {0, 0, 6, 20, 0, 0, 1, 0, 0, 0, 0, 0, 0, 3, 1, 0, 4, 5, 0, 0};
        Harness.sealed(due);
        h.due("image()", x.image(), due.length);
        for (int k = 0; k < due.length; k++) {
            h.due("octet(" + k + ")", x.octet(k), due[k]);
        }
    }

    private void imageOfOneWare() {
        h.topic("AN IMAGE: for each of its HOLDS, of each WARE, how many crates");
        for (int wares = 1; wares <= 6; wares++) {
            StringBuilder text = new StringBuilder("ship s holds 3 trims 0;ship t holds 4 trims 0;");
            int[] due = new int[2 + 1 + 3 * wares + 1 + 4 * wares + 1];
            for (int ware = 0; ware < wares; ware++) {
                char c = (char) ('a' + ware);
                text.append("ware w").append(c).append(" weighs 1 lifts 0;");
                for (int hold = 0; hold < 4; hold++) {
                    int many = hold * 6 + ware > 20 ? 1 : hold * 6 + ware;
                    text.append("loads t ").append(hold).append(" w").append(c).append(" ").append(many).append(";");
                    due[2 + 1 + 3 * wares + 1 + hold * wares + ware] = many;
                }
                text.append("loads s 2 w").append(c).append(" ").append(ware + 3).append(";");
                due[3 + 2 * wares + ware] = ware + 3;
            }
            WrongTide x = Harness.told(text.toString());
            h.due("image() of " + wares + " WARES", x.image(), due.length);
            Harness.sealed(due);
            for (int k = 0; k < due.length; k++) {
                h.due("octet(" + k + ") of " + wares + " WARES", x.octet(k), due[k]);
            }
        }
    }

    private void lastByte() {
        h.topic("last a byte: all ahead from 139 on, c = (5 c + it) mod 251");
        int[][] hours = {{0, (5 * (5 * 139 % 251)) % 251}, {1, (5 * (5 * 139 % 251) + 1) % 251}};
        for (int[] row : hours) {
            WrongTide x = new WrongTide();
            late(x, row[0]);
            x.image();
            h.due("octet(2) in HOUR " + row[0], x.octet(2), row[1]);
        }
        h.due("by hand", hours[0][1], 212);
        int hour = 0;
        int[] seen = new int[256];
        for (; hour < 251; hour++) {
            WrongTide x = new WrongTide();
            late(x, hour);
            x.image();
            seen[x.octet(2) & 255]++;
        }
        h.due("the least last byte", seen[0], 1);
        h.due("the greatest last byte", seen[250], 1);
        h.due("none above", seen[251] + seen[255], 0);
    }
}
