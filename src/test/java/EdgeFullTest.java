/**
 * What is full and what goes round, by hand: the sixth ship, ware and berth in each call, the fullest holds, more than
 * twice the 60 that are KEPT and the 20 ACTS, the longest texts one behind the other, swaps among six wares.
 */
public final class EdgeFullTest {
    private static final int NONE = WrongTide.NONE;
    private static final int CELLS = 24;
    private static final int[] WEIGHS = {1, 2, 4, 8, 16, 32};

    private final Harness h = new Harness();

    public static void main(String[] args) {
        EdgeFullTest test = new EdgeFullTest();
        test.ships();
        test.rings();
        test.texts();
        test.swaps();
        test.h.finish("EdgeFullTest");
    }

    private void ships() {
        sixthLies();
        sixthInTexts();
        sixthInImages();
        sixthUndone();
        sixthAdrift();
        sixthLoses();
        fullestHolds();
        fullestRows();
        mostBerthed();
    }

    private void rings() {
        keptTwiceRound();
        keptUndone();
        actsTwiceRound();
        actsAnew();
        lostInOneAct();
    }

    private void texts() {
        longestTexts();
        longestWithFaults();
        numbersLikeSigns();
    }

    private void swaps() {
        swapsOfAnyWares();
        swapsAtTwenty();
        swapsLeaveNothing();
    }

    /** Six of each: ware wa weighs 1, each next twice as much; ship sa lies in berth ba, and so on. */
    private static String six(String trims, String heights) {
        StringBuilder text = new StringBuilder();
        for (int k = 0; k < 6; k++) {
            char c = (char) ('a' + k);
            text.append("ware w").append(c).append(" weighs ").append(WEIGHS[k]).append(" lifts 0;ship s").append(c).append(" holds 4 trims ")
                    .append(trims).append(";berth b").append(c).append(" ").append(heights).append(";lies s").append(c).append(" b").append(c)
                    .append(";");
        }
        return text.toString();
    }

    private static WrongTide port(String more) {
        return Harness.told(six("999", "from 0 to 9999") + more);
    }

    /** The image's row of six ships with as many crates in each of their cells, each in its own berth. */
    private static int[] row(int crates) {
        int[] row = new int[3 + 6 * (1 + CELLS)];
        for (int ship = 0; ship < 6; ship++) {
            row[berthAt(ship)] = ship + 1;
            for (int k = 0; k < CELLS; k++) {
                row[berthAt(ship) + 1 + k] = crates;
            }
        }
        return Harness.sealed(row);
    }

    private static int berthAt(int ship) {
        return 2 + ship * (1 + CELLS);
    }

    private static WrongTide full(String more) {
        WrongTide x = port(more);
        Harness.row(x, row(20));
        if (!x.on()) {
            throw new IllegalStateException("no image: " + more);
        }
        return x;
    }

    // ---- the sixth

    private void sixthLies() {
        h.topic("promises 12, 27: the SHIP that lies in it; a BERTH in which none lies; for each of six");
        for (int ship = 0; ship < 6; ship++) {
            WrongTide x = port("rides 50;");
            h.due("berth(" + ship + ", 2)", x.berth(ship, 2), ship);
            h.due("berth(" + ship + ", 3)", x.berth(ship, 3), 63);
            int other = (ship + 1) % 6;
            h.due("a BERTH in which ship " + ship + " lies", x.moor(other, ship), false);
            h.due("its own", x.moor(ship, ship), false);
            h.due("status(3)", x.status(3), 2);
            h.due("it leaves", x.moor(ship, NONE), true);
            h.due("none lies there", x.berth(ship, 2), NONE);
            h.due("SHIPS that lie", x.has(6), 5);
            h.due("none lies there", x.moor(other, ship), true);
            h.due("another one does", x.berth(ship, 2), other);
        }
    }

    private void sixthInTexts() {
        h.topic("lies NAME NAME: a BERTH in which none lies; the SHIP lies in none so far; for each of six");
        String ahead = six("0", "from 0 to 9").replaceAll("lies .. ..;", "");
        for (char c = 'a'; c <= 'f'; c++) {
            char other = c == 'f' ? 'a' : (char) (c + 1);
            String told = ahead + "lies s" + c + " b" + c + ";lies s";
            fault(told + other + " ", "b" + c + ";", 3);
            fault(told.substring(0, told.length() - 1), "s" + c + " b" + other + ";", 3);
            WrongTide x = Harness.told(told + other + " b" + other + ";");
            h.due("SHIPS that lie", x.has(6), 2);
        }
    }

    private void fault(String ahead, String rest, int kind) {
        WrongTide x = new WrongTide();
        h.due("harbour() of " + ahead + rest, Harness.harbour(x, ahead + rest), NONE);
        h.due("fault(0) of " + ahead + rest, x.fault(0), kind);
        h.due("fault(1) of " + ahead + rest, x.fault(1), ahead.length());
    }

    private void sixthInImages() {
        h.topic("promise 35: BERTHS that there are, in none two; for each of six");
        for (int ship = 0; ship < 6; ship++) {
            for (int other = 0; other < 6; other++) {
                WrongTide x = port("");
                int[] row = row(1);
                row[berthAt(other)] = ship + 1;
                Harness.row(x, Harness.sealed(row));
                h.due("ship " + other + " in the BERTH of ship " + ship, x.on(), ship == other);
                h.due("crates", x.has(7), ship == other ? 144 : 0);
            }
            WrongTide x = port("");
            int[] row = row(0);
            row[berthAt(ship)] = 7;
            Harness.row(x, Harness.sealed(row));
            h.due("a seventh BERTH", x.on(), false);
            row[berthAt(ship)] = 0;
            Harness.row(x, Harness.sealed(row));
            h.due("in none", x.on(), true);
            h.due("in none", x.ship(ship, 2), NONE);
            h.due("in none", x.berth(ship, 2), NONE);
        }
    }

    private void sixthUndone() {
        h.topic("promise 30: all is as it was ahead of it, for each of six SHIPS, four HOLDS, six WARES");
        for (int ship = 0; ship < 6; ship++) {
            WrongTide x = port("rides 50;");
            x.moor(ship, NONE);
            h.due("undo", x.undo(), true);
            h.due("it lies again", x.ship(ship, 2), ship);
            h.due("in its BERTH", x.berth(ship, 2), ship);
            for (int k = 0; k < CELLS; k++) {
                h.due("laded", x.lade(ship, k / 6, k % 6), 1);
                h.due("undo", x.undo(), true);
                h.due("it is out again", x.crates(ship, k / 6, k % 6), 0);
                h.due("crates", x.has(7), 0);
            }
        }
    }

    private void sixthAdrift() {
        h.topic("promises 15, 28: the first SHIP that is ADRIFT, for each of six");
        for (int ship = 0; ship < 6; ship++) {
            char c = (char) ('a' + ship);
            String text = six("999", "from 0 to 9999").replace("berth b" + c + " from 0 to 9999", "berth b" + c + " from 0 to 59");
            WrongTide x = Harness.told(text + "rides 50+hour;");
            h.due("in how many HOURS", x.adrift(0), 10);
            h.due("which", x.adrift(1), ship);
            h.due("not yet", x.hours(9), 0);
            h.due("then", x.hours(1), 1);
            h.due("it lies in none", x.ship(ship, 2), NONE);
            h.due("the others do", x.has(6), 5);
            h.due("none is left to be so", x.adrift(0), NONE);
            h.due("undo", x.undo(), true);
            h.due("it lies again", x.ship(ship, 2), ship);
            h.due("in how many HOURS", x.adrift(0), 1);
        }
        WrongTide safe = port("rides 50;");
        h.due("six that are SAFE: in how many HOURS", safe.adrift(0), NONE);
        h.due("six that are SAFE: which", safe.adrift(1), NONE);
        h.due("six that are SAFE", safe.hours(200), 0);
        WrongTide all = Harness.told(six("999", "from 0 to 51") + "rides 50+hour;");
        h.due("all at once: in how many HOURS", all.adrift(0), 2);
        h.due("all at once: the first one", all.adrift(1), 0);
        h.due("all at once", all.hours(200), 6);
        h.due("none lies", all.has(6), 0);
    }

    private void sixthLoses() {
        h.topic("it loses the first crate that it has (by HOLDS, then by WARES), for each of six SHIPS");
        for (int ship = 0; ship < 6; ship++) {
            for (int k = 0; k < CELLS; k++) {
                WrongTide x = port("rides 50;gale 100;");
                int[] row = row(0);
                row[berthAt(ship)] = 0;
                row[berthAt(ship) + 1 + k] = 1;
                row[berthAt(ship) + CELLS] = 20;
                Harness.row(x, Harness.sealed(row));
                h.due("on()", x.on(), true);
                h.due("lost", x.gales(1), 1);
                h.due("HOUR", x.kept(0, 0), 0);
                h.due("SHIP", x.kept(0, 1), ship);
                h.due("HOLD", x.kept(0, 2), k / 6);
                h.due("WARE", x.kept(0, 3), k % 6);
                h.due("lost", x.kept(0, 4), 2);
                h.due("left there", x.crates(ship, k / 6, k % 6), k == CELLS - 1 ? 19 : 0);
            }
        }
    }

    // ---- the fullest holds

    private void fullestHolds() {
        h.topic("20 crates of a WARE in a HOLD at most, in each HOLD of each SHIP");
        for (int ship = 0; ship < 6; ship++) {
            WrongTide x = full("rides 50;");
            h.due("tips(" + ship + ")", x.tips(ship), 0);
            h.due("weight", x.ship(ship, 3), 80 * 63);
            for (int k = 0; k < CELLS; k++) {
                int hold = k / 6;
                int ware = k % 6;
                h.due("a 21st", x.lade(ship, hold, ware), NONE);
                h.due("a 21st by shift", x.shift(ship, hold, ware, (hold + 1) % 4), false);
                h.due("one out", x.discharge(ship, hold, ware), 19);
                h.due("tips", x.tips(ship), hold % 2 == 0 ? -WEIGHS[ware] : WEIGHS[ware]);
                h.due("weight", x.ship(ship, 3), 80 * 63 - WEIGHS[ware]);
                h.due("one in by shift", x.shift(ship, (hold + 1) % 4, ware, hold), true);
                h.due("20 there", x.crates(ship, hold, ware), 20);
                h.due("19 there", x.crates(ship, (hold + 1) % 4, ware), 19);
                h.due("one in", x.lade(ship, (hold + 1) % 4, ware), 20);
                h.due("crates of the WARE", x.ware(ware, 2), 480);
            }
            h.due("refused", x.status(2), 48);
            h.due("crates", x.has(7), 2880);
        }
    }

    private void fullestRows() {
        h.topic("STOWED, ORDER, RODE: no HOLD with more than 20 of a WARE, in each HOLD of each SHIP");
        for (int ship = 0; ship < 6; ship++) {
            for (int k = 0; k < CELLS; k++) {
                WrongTide x = full("rides 50;");
                Harness.row(x, k % 6);
                h.due("it can't go in", x.stow(ship), NONE);
                Harness.row(x, k / 6, k % 6);
                h.due("no ORDER", x.order(ship), 0);
                x.discharge(ship, k / 6, k % 6);
                Harness.row(x, k % 6);
                h.due("stow", x.stow(ship), 0);
                h.due("the one HOLD with room", x.stowed(0), k / 6);
                Harness.row(x, k / 6, k % 6);
                h.due("order", x.order(ship), 1);
                h.due("ordered(0)", x.ordered(0), 0);
                Harness.row(x, k % 6, k % 6);
                h.due("two can't go in", x.stow(ship), NONE);
                Harness.row(x, k / 6, k % 6, k / 6, k % 6);
                h.due("no ORDER of two", x.order(ship), 0);
                h.due("nothing was refused", x.status(5), 0);
                h.due("crates", x.has(7), 2879);
            }
            WrongTide x = full("rides 9999-weight;");
            int pairs = 0;
            for (int weighs : WEIGHS) {
                pairs += 32 % weighs == 0 && 32 / weighs <= 20 ? 1 : 0;
            }
            Harness.row(x, 0, 0, (9999 - 32) / 256, (9999 - 32) % 256);
            h.due("what she has aboard is not asked", x.rode(ship), pairs);
            Harness.row(x, 0, 0, (9999 - 640) / 256, (9999 - 640) % 256);
            h.due("20 of the sixth WARE", x.rode(ship), 1);
        }
    }

    private void mostBerthed() {
        h.topic("BERTHED: six SHIPS in six BERTHS");
        WrongTide free = full("rides 50;");
        h.due("how many", free.berthed(0, NONE), 6);
        StringBuilder text = new StringBuilder();
        for (int k = 0; k < 6; k++) {
            char c = (char) ('a' + k);
            // Ship k rides at 10 (k + 1), so that only the last berths but k fit it, and one way alone has all six lie.
            text.append("ware w").append(c).append(" weighs ").append(10 * (k + 1)).append(" lifts 0;ship s").append(c)
                    .append(" holds 2 trims 999;loads s").append(c).append(" 0 w").append(c).append(" 1;berth b").append(c)
                    .append(" from 0 to ").append(10 * (6 - k)).append(";");
        }
        WrongTide x = Harness.told(text + "rides weight;");
        h.due("how many", x.berthed(200, NONE), 6);
        for (int k = 0; k < 6; k++) {
            h.due("each as it fits", free.berthed(0, k), k);
            h.due("the only way", x.berthed(200, k), 5 - k);
        }
        h.due("no seventh", x.berthed(0, 6), WrongTide.NOTHING);
    }

    // ---- what goes round

    /** The n-th crate that is laded: no two of 144 like ones. */
    private static int laded(int n) {
        return n % 144;
    }

    private static WrongTide ladedTimes(int many) {
        WrongTide x = port("rides 50;");
        for (int n = 0; n < many; n++) {
            int cell = laded(n);
            x.lade(cell % 6, cell / 6 % 4, cell / 24);
        }
        return x;
    }

    private void keptAre(WrongTide x, int many) {
        int told = Math.min(many, 60);
        h.due("told behind " + many, x.has(8), told);
        for (int k = 0; k < told; k++) {
            int got = x.kept(k, 1) + 6 * x.kept(k, 2) + 24 * x.kept(k, 3);
            h.due("kept(" + k + ") behind " + many, got, laded(many - told + k));
        }
        h.due("behind the newest", x.kept(told, 0), NONE);
    }

    private void keptTwiceRound() {
        h.topic("KEPT (the last 60 are told), however many were");
        int[] manies = {59, 60, 61, 119, 120, 121, 122, 179, 180, 181, 182, 240, 241};
        for (int many : manies) {
            keptAre(ladedTimes(many), many);
        }
    }

    private void keptUndone() {
        h.topic("KEPT (the last 60 are told), as they were ahead of an ACT that is undone");
        for (int many = 59; many <= 182; many++) {
            WrongTide x = ladedTimes(many);
            h.due("undo", x.undo(), true);
            keptAre(x, many - 1);
        }
        int[] manies = {60, 80, 120, 130, 139, 140, 181};
        for (int many : manies) {
            WrongTide x = ladedTimes(many);
            for (int k = 0; k < 20; k++) {
                x.undo();
            }
            keptAre(x, many - 20);
        }
    }

    private void actsTwiceRound() {
        h.topic("The last 20 can be undone, however many ACTS were");
        for (int many = 1; many <= 83; many++) {
            WrongTide x = ladedTimes(many);
            int most = Math.min(many, 20);
            h.due("ACTS", x.has(9), most);
            for (int k = 1; k <= most; k++) {
                int cell = laded(many - k);
                h.due("aboard", x.crates(cell % 6, cell / 6 % 4, cell / 24), 1);
                h.due("undo " + k + " of " + many, x.undo(), true);
                h.due("no more", x.crates(cell % 6, cell / 6 % 4, cell / 24), 0);
                h.due("crates", x.has(7), many - k);
                h.due("ACTS", x.has(9), most - k);
            }
            h.due("one more of " + many, x.undo(), false);
            h.due("crates", x.has(7), many - most);
            h.due("status(4)", x.status(4), 1);
        }
    }

    private void actsAnew() {
        h.topic("The last 20 can be undone: ACTS behind some that were");
        for (int undone = 1; undone <= 20; undone++) {
            WrongTide x = ladedTimes(57);
            for (int k = 0; k < undone; k++) {
                x.undo();
            }
            for (int k = 0; k < undone; k++) {
                h.due("an HOUR", x.hours(1), 0);
            }
            h.due("ACTS", x.has(9), 20);
            for (int k = 1; k <= undone; k++) {
                h.due("undo of an HOUR", x.undo(), true);
                h.due("HOUR", x.has(3), undone - k);
                h.due("crates", x.has(7), 57 - undone);
            }
            for (int k = 1; k <= 20 - undone; k++) {
                h.due("undo of a crate", x.undo(), true);
                h.due("crates", x.has(7), 57 - undone - k);
            }
            h.due("no more", x.undo(), false);
        }
    }

    private void lostInOneAct() {
        h.topic("promise 29: one ACT, with more lost than are told as KEPT");
        WrongTide x = full("rides 50;gale 100;");
        for (int ship = 0; ship < 6; ship++) {
            x.moor(ship, NONE);
        }
        h.due("lost", x.gales(200), 1200);
        h.due("crates", x.has(7), 1680);
        h.due("told", x.has(8), 60);
        for (int k = 0; k < 60; k++) {
            h.due("HOUR", x.kept(k, 0), 190 + k / 6);
            h.due("SHIP", x.kept(k, 1), k % 6);
        }
        h.due("ACTS", x.has(9), 7);
        h.due("lost", x.gales(200), 1200);
        h.due("lost, all that is left", x.gales(200), 480);
        h.due("crates", x.has(7), 0);
        h.due("the last HOUR with one", x.kept(59, 0), 479);
        h.due("nothing is left", x.gales(1), 0);
        h.due("undo", x.undo() && x.undo() && x.undo(), true);
        h.due("crates", x.has(7), 1680);
        h.due("told as it was", x.kept(0, 0), 190);
        h.due("undo", x.undo(), true);
        h.due("crates", x.has(7), 2880);
        h.due("nothing is told", x.has(8), 0);
    }

    // ---- texts

    private void longestTexts() {
        h.topic("promise 4: texts of 1600 bytes, one behind the other, each anew");
        WrongTide x = new WrongTide();
        for (int number = 1; number <= 6; number++) {
            boolean water = number % 2 == 1;
            String text = (water ? "water " : "moon  ") + number + ("+" + number).repeat(796) + ";";
            h.due("bytes", text.length(), 1600);
            h.due("harbour()", Harness.harbour(x, text), 1);
            h.due("WATER behind " + number, x.has(4), water ? 797 * number : 100);
            h.due("MOON behind " + number, x.has(5), water ? 0 : 797 * number);
        }
    }

    private void longestWithFaults() {
        h.topic("promise 4: the longest texts with a FAULT at their end, then one without");
        WrongTide x = new WrongTide();
        h.due("harbour()", Harness.harbour(x, "water 3;"), 1);
        for (int k = 0; k < 3; k++) {
            h.due("harbour()", Harness.harbour(x, "water 2" + "+2".repeat(795) + ";;"), NONE);
            h.due("fault(0)", x.fault(0), 1);
            h.due("fault(1)", x.fault(1), 1598);
            h.due("WATER stays", x.has(4), 3);
        }
        h.due("harbour()", Harness.harbour(x, "water 2" + "+2".repeat(796) + ";"), 1);
        h.due("WATER", x.has(4), 1594);
        h.due("ends too soon", Harness.harbour(x, "water 2" + "+2".repeat(796) + "+"), NONE);
        h.due("at the text's length", x.fault(1), 1600);
    }

    private void numbersLikeSigns() {
        h.topic("a 5th digit at itself, whatever its number is");
        String[] places = {"", "gale ", "gale 7 ", "water ", "water 1 ", "water (1 ", "water min ", "water min(1 ", "may ", "may 1 ", "may all ",
            "may [all "};
        for (int sign = 33; sign < 127; sign++) {
            for (String place : places) {
                fault(place + String.format("%04d", sign), "0;", 1);
            }
        }
    }

    // ---- swaps

    private void swapped(String text, int want) {
        WrongTide x = Harness.told(text);
        h.due("swaps(0, 1) of " + text, x.swaps(0, 1), want);
        h.due("swaps(1, 0) of " + text, x.swaps(1, 0), want);
    }

    private void swapsOfAnyWares() {
        h.topic("SWAPS: the fewest (2 at most), of any two of six WARES, from any HOLD for one of any HOLD");
        StringBuilder wares = new StringBuilder();
        for (int k = 0; k < 6; k++) {
            wares.append("ware w").append((char) ('a' + k)).append(" weighs ").append(WEIGHS[k]).append(" lifts 0;");
        }
        String port = wares + "ship s holds 4 trims 0;ship t holds 4 trims 0;";
        for (int k = 0; k < 36 * 16; k++) {
            char gives = (char) ('a' + k / 6 % 6);
            char takes = (char) ('a' + k % 6);
            int from = k / 36 % 4;
            int into = k / 144;
            for (int many = 1; many <= 3; many++) {
                // Each ship is level once the two wares that are alike lie on either side of it.
                String loads = "loads s " + from + " w" + gives + " " + many + ";loads s " + (from ^ 1) + " w" + takes + " " + many
                        + ";loads t " + into + " w" + takes + " " + many + ";loads t " + (into ^ 1) + " w" + gives + " " + many + ";";
                swapped(port + loads, gives == takes ? 0 : many <= 2 ? many : NONE);
            }
        }
    }

    private void swapsAtTwenty() {
        h.topic("SWAPS: no HOLD with more than 20 of a WARE, one behind the other");
        String port = "ware g weighs 99 lifts 0;ware t weighs 0 lifts 0;ship s holds 4 trims 0;ship o holds 4 trims 999;";
        for (int hold = 0; hold < 4; hold++) {
            for (int other = 0; other < 4; other++) {
                String two = port + "loads o " + other + " t 2;loads s " + hold + " g 2;loads s " + hold + " t ";
                swapped(two + "17;", 2);
                swapped(two + "18;", 2);
                swapped(two + "19;", NONE);
                swapped(two + "20;", NONE);
                // With one more t on the other side, that one may go for the g which the first swap has brought.
                String across = "loads s " + (hold ^ 1) + " t 1;";
                swapped(two + "19;" + across, 2);
                swapped(two + "20;" + across, NONE);
            }
        }
    }

    private void swapsLeaveNothing() {
        h.topic("SWAPS: of what is there then, not of what was tried");
        String[] wares = {"ware g weighs 50 lifts 0;", "ware t weighs 70 lifts 0;", "ware u weighs 20 lifts 0;"};
        int[][] orders = {{0, 1, 2}, {0, 2, 1}, {1, 0, 2}, {1, 2, 0}, {2, 0, 1}, {2, 1, 0}};
        for (int[] order : orders) {
            String port = wares[order[0]] + wares[order[1]] + wares[order[2]] + "ship s holds 2 trims 0;ship o holds 2 trims 999;";
            for (int hold = 0; hold < 2; hold++) {
                // A t and a u tried one behind the other must not both be there: 20 and 50 less 70 would be level.
                swapped(port + "loads s " + hold + " g 1;loads o 0 t 1;loads o 0 u 1;", NONE);
                swapped(port + "loads s " + hold + " g 1;loads o 0 t 1;loads o 1 u 1;", NONE);
                swapped(port + "loads s " + hold + " g 1;loads s " + (1 - hold) + " t 1;loads o 0 t 1;loads o 1 u 1;", 1);
            }
        }
    }
}
