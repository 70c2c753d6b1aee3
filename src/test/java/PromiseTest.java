/** One method for each promise of the document: ordinary inputs, the edges it names, wrong inputs. */
public final class PromiseTest {
    private static final int NONE = WrongTide.NONE;
    private static final int NOTHING = WrongTide.NOTHING;
    private static final int[] WILD = {Integer.MIN_VALUE, -2, -1, 7, 99, 10000, Integer.MAX_VALUE};

    private static final String PORT = "ware tea weighs 2 lifts 10;ware iron weighs 9 lifts 0;"
            + "ship brig holds 4 trims 40;ship hoy holds 2 trims 5;"
            + "loads brig 0 tea 3;loads brig 1 iron 1;loads hoy 0 iron 2;"
            + "berth quay from 80 to 120;berth pole from 100 to 200;lies brig pole;"
            + "water 100+hour%12;moon 50-hour*5;may count<9;gale 50;";
    /** Nothing here ever drifts: a ship that stays at 100 in a berth that takes all heights. */
    private static final String CALM = "ware w weighs 1 lifts 1;ware v weighs 3 lifts 0;"
            + "ship s holds 2 trims 999;berth b from 0 to 9999;berth c from 0 to 9999;lies s b;rides 100;";
    /** Two ships that lie in none; each hour of gales takes a crate of each. */
    private static final String STORM = "ware w weighs 1 lifts 1;ware v weighs 1 lifts 1;"
            + "ship s holds 2 trims 0;ship t holds 2 trims 0;"
            + "loads s 0 v 2;loads s 1 w 1;loads t 0 w 20;loads t 0 v 20;loads t 1 w 20;loads t 1 v 20;gale 100;";

    private final Harness h = new Harness();

    public static void main(String[] args) {
        PromiseTest test = new PromiseTest();
        test.first();
        test.second();
        test.third();
        test.fourth();
        test.h.finish("PromiseTest");
    }

    private void first() {
        newObject();
        feed();
        end();
        harbour();
        fault();
        has();
        letter();
        ware();
        ship();
    }

    private void second() {
        tips();
        crates();
        berth();
        tide();
        rides();
        ridesBySum();
        adrift();
        alike();
        berthed();
    }

    private void third() {
        stow();
        stowed();
        order();
        ordered();
        swaps();
        rode();
        lade();
        discharge();
        shift();
    }

    private void fourth() {
        moor();
        hours();
        gales();
        undo();
        seed();
        kept();
        image();
        octet();
        on();
        status();
    }

    private void newObject() {
        h.topic("promise 1");
        WrongTide x = new WrongTide();
        int[] due = {0, 0, 0, 0, 100, 0, 0, 0, 0, 0, 1};
        for (int what = 0; what < due.length; what++) {
            h.due("has(" + what + ")", x.has(what), due[what]);
        }
        for (int what = 0; what < 6; what++) {
            h.due("status(" + what + ")", x.status(what), 0);
        }
        h.due("ship(0, 0)", x.ship(0, 0), NONE);
        h.due("ware(0, 0)", x.ware(0, 0), NONE);
        h.due("berth(0, 0)", x.berth(0, 0), NONE);
        h.due("tips(0)", x.tips(0), NOTHING);
        h.due("NONE", NONE, -1);
        h.due("NOTHING", NOTHING, -1000000000);
    }

    private void feed() {
        h.topic("promise 2");
        WrongTide x = new WrongTide();
        for (int k = 1; k <= 80; k++) {
            h.due("feed", x.feed(0, 0, 0, 0, 0), 20 * k);
        }
        h.due("feed beyond 1600", x.feed(1, 2, 3, 4, 5), NONE);
        h.due("status(0)", x.status(0), 1);
        h.due("end(1581)", x.end(1581), true);
        h.due("feed to 1601", x.feed(1, 2, 3, 4, 5), NONE);
        h.due("end(1580)", x.end(1580), true);
        h.due("feed to 1600", x.feed(1, 2, 3, 4, 5), 1600);
        h.due("status(0)", x.status(0), 2);
        WrongTide y = new WrongTide();
        y.feed(0x67616c65, 0x20373b20, 0x20202020, 0x20202020, 0x20202020);
        h.due("harbour() of 'gale 7;', the highest byte first", y.harbour(), 1);
        y.feed(0xffffffff, 0, 0, 0, 0);
        y.harbour();
        h.due("a byte of 255 is a fault at 0", y.fault(1), 0);
    }

    private void end() {
        h.topic("promise 3");
        WrongTide x = new WrongTide();
        h.due("end(0) of an empty tape", x.end(0), true);
        h.due("end(1) of an empty tape", x.end(1), false);
        h.due("end(-1)", x.end(-1), false);
        h.due("end(MIN)", x.end(Integer.MIN_VALUE), false);
        h.due("end(MAX)", x.end(Integer.MAX_VALUE), false);
        h.due("status(0)", x.status(0), 4);
        x.feed(0, 0, 0, 0, 0);
        h.due("end(21)", x.end(21), false);
        h.due("end(20)", x.end(20), true);
        h.due("end(3)", x.end(3), true);
        h.due("end(4)", x.end(4), false);
        h.due("feed behind three", x.feed(0, 0, 0, 0, 0), 23);
        h.due("status(0)", x.status(0), 6);
    }

    private void harbour() {
        h.topic("promise 4");
        WrongTide x = Harness.told(PORT);
        h.due("feed: the tape went", x.feed(0, 0, 0, 0, 0), 20);
        x.end(0);
        x.seed(77);
        x.lade(0, 0, 0);
        x.hours(3);
        Harness.row(x, 0);
        x.stow(1);
        h.due("harbour() with a fault", Harness.harbour(x, "gale 1;gale"), NONE);
        h.due("status(1)", x.status(1), 1);
        h.due("the tape went", x.feed(0, 0, 0, 0, 0), 20);
        x.end(0);
        h.due("all stays: has(1)", x.has(1), 2);
        h.due("all stays: has(3)", x.has(3), 3);
        h.due("all stays: has(9)", x.has(9), 2);
        h.due("all stays: stowed(0)", x.stowed(0), 0);
        h.due("harbour() of an empty tape", x.harbour(), 0);
        int[] due = {0, 0, 0, 0, 100, 0, 0, 0, 0, 0, 77};
        for (int what = 0; what < due.length; what++) {
            h.due("has(" + what + ")", x.has(what), due[what]);
        }
        h.due("stowed(0)", x.stowed(0), NONE);
        h.due("undo()", x.undo(), false);
        h.due("harbour() of blanks", Harness.harbour(x, " \n \n"), 0);
        h.due("harbour() again", Harness.harbour(x, PORT), 14);
        h.due("loads: the last one counts", lastLoads(), 7);
        h.due("80 statements", Harness.harbour(x, "gale 1;".repeat(80)), 80);
        h.due("81 statements", Harness.harbour(x, "gale 1;".repeat(81)), NONE);
        orderStaysWithItsHarbour();
        nothingComesAlong();
    }

    private void nothingComesAlong() {
        WrongTide x = Harness.told(STORM + "water 7;moon 8;rides 9;may not all;");
        String bare = "ware w weighs 0 lifts 0;ship s holds 2 trims 0;loads s 0 w 9;berth b from 100 to 100;";
        h.due("harbour()", Harness.harbour(x, bare), 4);
        h.due("no water", x.has(4), 100);
        h.due("no moon", x.has(5), 0);
        h.due("no rides", x.ship(0, 6), 100);
        h.due("no gale", x.gales(5), 0);
        h.due("moor", x.moor(0, 0), true);
        h.due("no may", x.lade(0, 0, 0), 10);
        String longSum = "water 1" + "+hour".repeat(300) + ";";
        for (int k = 0; k < 6; k++) {
            h.due("a long sum again", Harness.harbour(x, longSum), 1);
            h.due("tide(3, 0)", x.tide(3, 0), 901);
        }
        h.due("the longest sum", Harness.harbour(x, "water 1" + "+1".repeat(796) + ";"), 1);
        h.due("tide(0, 0)", x.tide(0, 0), 797);
    }

    private int lastLoads() {
        return Harness.told("ware w weighs 1 lifts 1;ship s holds 2 trims 0;loads s 0 w 9;loads s 1 w 2;loads s 0 w 5;").has(7);
    }

    private void orderStaysWithItsHarbour() {
        WrongTide x = Harness.told(CALM);
        Harness.row(x, 0, 0);
        h.due("order(0)", x.order(0), 1);
        h.due("ordered(0)", x.ordered(0), 0);
        Harness.harbour(x, CALM);
        h.due("ordered(0) of a new harbour", x.ordered(0), NONE);
    }

    private void fault() {
        h.topic("promise 5");
        WrongTide x = new WrongTide();
        h.due("fault(0) ahead of any", x.fault(0), 0);
        h.due("fault(1) ahead of any", x.fault(1), NONE);
        Harness.harbour(x, "gale 7;gale 101;");
        h.due("fault(0)", x.fault(0), 4);
        h.due("fault(1)", x.fault(1), 12);
        for (int what : WILD) {
            h.due("fault(" + what + ")", x.fault(what), NONE);
        }
        h.due("fault(2)", x.fault(2), NONE);
        Harness.harbour(x, "gale 7;");
        h.due("fault(0) without", x.fault(0), 0);
        h.due("fault(1) without", x.fault(1), NONE);
    }

    private void has() {
        h.topic("promise 6");
        WrongTide x = Harness.told(PORT);
        int[] due = {2, 2, 2, 0, 100, 50, 1, 6, 0, 0, 1};
        for (int what = 0; what < due.length; what++) {
            h.due("has(" + what + ")", x.has(what), due[what]);
        }
        x.lade(0, 2, 1);
        x.hours(2);
        int[] then = {2, 2, 2, 2, 102, 40, 0, 7, 1, 2, 1};
        for (int what = 0; what < then.length; what++) {
            h.due("then has(" + what + ")", x.has(what), then[what]);
        }
        h.due("has(11)", x.has(11), NONE);
        h.due("has(-1)", x.has(-1), NONE);
        h.due("has(MAX)", x.has(Integer.MAX_VALUE), NONE);
        h.due("has(MIN)", x.has(Integer.MIN_VALUE), NONE);
        h.due("water below 0", Harness.told("water 5-6;").has(4), 0);
        h.due("water above 9999", Harness.told("water 9999+1;").has(4), 9999);
        h.due("moon above 9999", Harness.told("moon 9999*9;").has(5), 9999);
        h.due("moon below 0", Harness.told("moon 1-9;").has(5), 0);
    }

    private void letter() {
        h.topic("promise 7");
        WrongTide x = Harness.told("ware abz weighs 1 lifts 1;ship qwerty holds 2 trims 0;berth k from 1 to 1;");
        int[][] due = {{1, 2, 26, 0, 0, 0}, {17, 23, 5, 18, 20, 25}, {11, 0, 0, 0, 0, 0}};
        for (int kind = 0; kind < 3; kind++) {
            for (int k = 0; k < 6; k++) {
                h.due("letter(" + kind + ", 0, " + k + ")", x.letter(kind, 0, k), due[kind][k]);
            }
            h.due("letter(.., 0, 6)", x.letter(kind, 0, 6), NONE);
            h.due("letter(.., 0, -1)", x.letter(kind, 0, -1), NONE);
            h.due("letter(.., 1, 0)", x.letter(kind, 1, 0), NONE);
            h.due("letter(.., -1, 0)", x.letter(kind, -1, 0), NONE);
        }
        for (int wild : WILD) {
            h.due("letter(" + wild + ", 0, 0)", x.letter(wild, 0, 0), NONE);
            h.due("letter(0, " + wild + ", 0)", x.letter(0, wild, 0), NONE);
            h.due("letter(0, 0, " + wild + ")", x.letter(0, 0, wild), NONE);
        }
        h.due("letter(3, 0, 0)", x.letter(3, 0, 0), NONE);
    }

    private void ware() {
        h.topic("promise 8");
        WrongTide x = Harness.told(PORT);
        int[][] due = {{2, 10, 3, NONE}, {9, 0, 3, NONE}};
        for (int w = 0; w < 2; w++) {
            for (int what = 0; what < 4; what++) {
                h.due("ware(" + w + ", " + what + ")", x.ware(w, what), due[w][what]);
            }
        }
        x.lade(0, 3, 1);
        h.due("ware(1, 2) once laded", x.ware(1, 2), 4);
        h.due("ware(2, 0)", x.ware(2, 0), NONE);
        for (int wild : WILD) {
            h.due("ware(" + wild + ", 0)", x.ware(wild, 0), NONE);
            h.due("ware(0, " + wild + ")", x.ware(0, wild), NONE);
        }
    }

    private void ship() {
        h.topic("promise 9");
        WrongTide x = Harness.told(PORT);
        int[][] due = {{4, 40, 1, 15, 30, 4, 100, 1, NONE}, {2, 5, NONE, 18, 0, 2, 82, 0, NONE}};
        for (int s = 0; s < 2; s++) {
            for (int what = 0; what < 9; what++) {
                h.due("ship(" + s + ", " + what + ")", x.ship(s, what), due[s][what]);
            }
        }
        h.due("ship(2, 0)", x.ship(2, 0), NONE);
        for (int wild : WILD) {
            h.due("ship(" + wild + ", 0)", x.ship(wild, 0), NONE);
            if (wild != 7) {
                h.due("ship(0, " + wild + ")", x.ship(0, wild), NONE);
            }
        }
        String edge = "ware w weighs 1 lifts 0;ship s holds 2 trims 3;ship t holds 2 trims 3;loads s 0 w 3;loads t 1 w 3;";
        h.due("LEVEL at trims", Harness.told(edge).ship(0, 7), 1);
        h.due("LEVEL at -trims", Harness.told(edge).ship(1, 7), 1);
        h.due("not LEVEL above trims", Harness.told(edge + "loads s 0 w 4;").ship(0, 7), 0);
        h.due("not LEVEL below -trims", Harness.told(edge + "loads t 1 w 4;").ship(1, 7), 0);
    }

    private void tips() {
        h.topic("promise 10");
        WrongTide x = Harness.told(PORT);
        h.due("tips(0)", x.tips(0), -33);
        h.due("tips(1)", x.tips(1), 18);
        h.due("tips(2)", x.tips(2), NOTHING);
        for (int wild : WILD) {
            h.due("tips(" + wild + ")", x.tips(wild), NOTHING);
        }
        WrongTide y = Harness.told("ware w weighs 5 lifts 1;ship s holds 4 trims 0;"
                + "loads s 0 w 1;loads s 1 w 2;loads s 2 w 10;loads s 3 w 7;");
        h.due("fore are 0 and 2, aft 1 and 3", y.tips(0), 4 * (1 - 2 + 10 - 7));
    }

    private void crates() {
        h.topic("promise 11");
        WrongTide x = Harness.told(PORT);
        h.due("crates(0, 0, 0)", x.crates(0, 0, 0), 3);
        h.due("crates(0, 0, 1)", x.crates(0, 0, 1), 0);
        h.due("crates(0, 1, 1)", x.crates(0, 1, 1), 1);
        h.due("crates(0, 3, 1)", x.crates(0, 3, 1), 0);
        h.due("crates(1, 0, 1)", x.crates(1, 0, 1), 2);
        h.due("crates(1, 2, 1): hoy has two holds", x.crates(1, 2, 1), NONE);
        h.due("crates(0, 4, 0)", x.crates(0, 4, 0), NONE);
        h.due("crates(0, 0, 2)", x.crates(0, 0, 2), NONE);
        h.due("crates(2, 0, 0)", x.crates(2, 0, 0), NONE);
        for (int wild : WILD) {
            h.due("crates(wild, 0, 0)", x.crates(wild, 0, 0), NONE);
            h.due("crates(0, wild, 0)", x.crates(0, wild, 0), NONE);
            h.due("crates(0, 0, wild)", x.crates(0, 0, wild), NONE);
        }
    }

    private void berth() {
        h.topic("promise 12");
        WrongTide x = Harness.told(PORT);
        int[][] due = {{80, 120, NONE, 1, NONE}, {100, 200, 0, 1, NONE}};
        for (int b = 0; b < 2; b++) {
            for (int what = 0; what < 5; what++) {
                h.due("berth(" + b + ", " + what + ")", x.berth(b, what), due[b][what]);
            }
        }
        for (int wild : WILD) {
            h.due("berth(wild, 0)", x.berth(wild, 0), NONE);
            h.due("berth(0, wild)", x.berth(0, wild), NONE);
        }
        h.due("berth(2, 0)", x.berth(2, 0), NONE);
        WrongTide y = Harness.told("ship a holds 2 trims 0;ship b holds 2 trims 0;ship c holds 2 trims 0;"
                + "berth p from 100 to 100;berth q from 101 to 102;berth r from 0 to 99;");
        h.due("SAFE at both edges, as bits", y.berth(0, 3), 7);
        h.due("too low to be SAFE", y.berth(1, 3), 0);
        h.due("too high to be SAFE", y.berth(2, 3), 0);
    }

    private void tide() {
        h.topic("promise 13");
        WrongTide x = Harness.told(PORT);
        h.due("tide(5, 0)", x.tide(5, 0), 105);
        h.due("tide(5, 1)", x.tide(5, 1), 25);
        h.due("tide(11, 1)", x.tide(11, 1), 0);
        h.due("tide(9999, 0)", x.tide(9999, 0), 100 + 9999 % 12);
        h.due("tide(10000, 0)", x.tide(10000, 0), NONE);
        h.due("tide(-1, 0)", x.tide(-1, 0), NONE);
        for (int wild : WILD) {
            h.due("tide(0, wild)", x.tide(0, wild), NONE);
        }
        h.due("tide(0, 2)", x.tide(0, 2), NONE);
        h.due("tide(MAX, 0)", x.tide(Integer.MAX_VALUE, 0), NONE);
        h.due("tide(MIN, 1)", x.tide(Integer.MIN_VALUE, 1), NONE);
        sums();
    }

    /** The small language, by what water tells in HOUR 7; 500 is added where the sum may be below 0. */
    private void sums() {
        sum("1+2*3", 7);
        sum("2*3+1", 7);
        sum("10-3-2", 5);
        sum("100/7/2", 7);
        sum("100%7*3", 6);
        sum("7*100%9", 7);
        sum("(1+2)*3", 9);
        sum("500+(0-7)/2", 496);
        sum("500+7/(0-2)", 496);
        sum("500+(0-7)%2", 501);
        sum("500+7%(0-2)", 499);
        sum("500+(0-7)/(0-2)", 503);
        sum("500+(0-7)%(0-2)", 499);
        sum("5/0", 0);
        sum("3+5%0", 3);
        sum("hour*hour", 49);
        sum("min(3,hour)", 3);
        sum("max(3,hour)", 7);
        sum("min(hour,2)-1", 1);
        sum("9999*9999/1000", 1000);
        sum("9999*9999-9999*9999", 0);
        sum("9999*100+999+9000", 9999);
        sum("(0-9999*9999)/(0-1000)", 1000);
        sum("(9999*100+9999)/1000", 1000);
        sum("(0-9999*100-9999)/(0-1000)", 1000);
        sum("if(hour>6,1,2)", 1);
        sum("if(hour<7,1,2)", 2);
        sum("if(hour=7,1,2)", 1);
        sum("if(not hour=7,1,2)", 2);
        sum("if(all,1,2)", 1);
        sum("if(not all,1,2)", 2);
        sum("if(all or all and not all,1,2)", 1);
        sum("if([all or all]and not all,1,2)", 2);
        sum("if(not all or all,1,2)", 1);
        sum("if(not[all or all],1,2)", 2);
        sum("if(not all and not all,1,2)", 2);
        sum("if(not not all,1,2)", 1);
        sum("if(1+1=2 and 3>2 and 2<3,hour+1,0)", 8);
        sum("0009", 9);
        sum("((((((hour))))))", 7);
        sum("(((((((hour)))))))", 7);
        sum("if([[[[[[all]]]]]],1,2)", 1);
        sum("if(not not not not not not all,1,2)", 1);
        sum(" \n( hour\n ) \n", 7);
    }

    private void sum(String text, int want) {
        WrongTide x = Harness.told("water " + text + ";");
        h.due("water " + text, x.tide(7, 0), want);
    }

    private void rides() {
        h.topic("promise 14");
        WrongTide x = Harness.told(PORT);
        h.due("rides(0, 1)", x.rides(0, 1), 99);
        h.due("rides(0, 11)", x.rides(0, 11), 96);
        h.due("rides(0, 200)", x.rides(0, 200), 100 + 200 % 12 - 15);
        h.due("rides(0, 201)", x.rides(0, 201), NONE);
        h.due("rides(0, -1)", x.rides(0, -1), NONE);
        h.due("rides(2, 0)", x.rides(2, 0), NONE);
        for (int wild : WILD) {
            h.due("rides(wild, 0)", x.rides(wild, 0), NONE);
        }
        h.due("rides(0, MAX)", x.rides(0, Integer.MAX_VALUE), NONE);
        h.due("rides(0, MIN)", x.rides(0, Integer.MIN_VALUE), NONE);
        lateImage(x, 9998);
        h.due("rides(1, 1) in HOUR 9998", x.rides(1, 1), 100 + 9999 % 12 - 18);
        h.due("rides(1, 2) in HOUR 9998", x.rides(1, 2), NONE);
        String heavy = "ware w weighs 99 lifts 0;ware v weighs 0 lifts 99;ship s holds 2 trims 999;ship t holds 2 trims 999;"
                + "loads s 0 w 2;loads t 0 v 20;moon 9999;";
        h.due("below 0", Harness.told(heavy).rides(0, 0), 0);
        h.due("above 9999", Harness.told(heavy).rides(1, 0), 9999);
        h.due("at 9900 by 100", Harness.told(heavy + "water 5;loads t 0 v 1;").rides(1, 0), 5 + 99 * 9999 / 100);
    }

    /** The hour of an image of what is there now is set, and the image put on. */
    private void lateImage(WrongTide x, int hour) {
        h.due("on() in HOUR " + hour, Harness.late(x, hour), true);
        h.due("has(3)", x.has(3), hour);
    }

    private void ridesBySum() {
        h.topic("promise 14, by rides");
        String port = "ware w weighs 3 lifts 5;ship s holds 3 trims 9;loads s 0 w 4;loads s 1 w 1;water 40+hour;moon 7;rides ";
        h.due("hour", Harness.told(port + "hour;").rides(0, 6), 6);
        h.due("water", Harness.told(port + "water;").rides(0, 6), 46);
        h.due("moon", Harness.told(port + "moon;").rides(0, 6), 7);
        h.due("weight", Harness.told(port + "weight;").rides(0, 6), 15);
        h.due("lift", Harness.told(port + "lift;").rides(0, 6), 25);
        h.due("tip", Harness.told(port + "100+tip;").rides(0, 6), 94);
        h.due("below 0", Harness.told(port + "tip;").rides(0, 6), 0);
        h.due("above 9999", Harness.told(port + "9999*2;").rides(0, 6), 9999);
    }

    private void adrift() {
        h.topic("promise 15");
        WrongTide x = Harness.told(PORT);
        h.due("adrift(0)", x.adrift(0), 1);
        h.due("adrift(1)", x.adrift(1), 0);
        h.due("adrift(2)", x.adrift(2), NONE);
        h.due("adrift(-1)", x.adrift(-1), NONE);
        h.due("nothing has changed", x.has(6), 1);
        String far = "ship s holds 2 trims 0;ship t holds 2 trims 0;berth b from 0 to 100;berth c from 0 to 100;"
                + "lies s c;lies t b;water ";
        WrongTide y = Harness.told(far + "if(hour<200,100,101);");
        h.due("adrift(0) in 200", y.adrift(0), 200);
        h.due("adrift(1) is the first one", y.adrift(1), 0);
        WrongTide z = Harness.told(far + "if(hour<201,100,101);");
        h.due("adrift(0) in 201", z.adrift(0), NONE);
        h.due("adrift(1) in 201", z.adrift(1), NONE);
        WrongTide now = Harness.told("ship s holds 2 trims 0;berth b from 0 to 99;lies s b;water if(hour=0,100,99);");
        h.due("not SAFE now counts for nothing", now.adrift(0), NONE);
        WrongTide late = Harness.told(far + "if(hour<9999,100,101);");
        lateImage(late, 9990);
        h.due("adrift(0) ahead of 9999", late.adrift(0), 9);
        lateImage(late, 9999);
        h.due("adrift(0) in 9999", late.adrift(0), NONE);
    }

    private void alike() {
        h.topic("promise 16");
        String two = "ware w weighs 1 lifts 0;ship s holds 2 trims 0;ship t holds 2 trims 0;loads s 0 w 1;rides ";
        WrongTide x = Harness.told(two + "if(hour%10=4,5,weight);");
        h.due("the first time", x.alike(0, 1, 0), 4);
        h.due("the second time", x.alike(1, 0, 1), 14);
        h.due("the last time", x.alike(0, 1, 19), 194);
        h.due("once more", x.alike(0, 1, 20), NONE);
        h.due("k below 0", x.alike(0, 1, -1), NONE);
        h.due("they are one", x.alike(1, 1, 0), NONE);
        for (int wild : WILD) {
            h.due("alike(wild, 0, 0)", x.alike(wild, 0, 0), NONE);
            h.due("alike(0, wild, 0)", x.alike(0, wild, 0), NONE);
        }
        WrongTide y = Harness.told(two + "5;");
        h.due("now is the first", y.alike(0, 1, 0), 0);
        h.due("200 is the last", y.alike(0, 1, 200), 200);
        h.due("201 is not", y.alike(0, 1, 201), NONE);
        lateImage(y, 9997);
        h.due("9999 is the last", y.alike(0, 1, 2), 2);
        h.due("beyond 9999", y.alike(0, 1, 3), NONE);
    }

    private void berthed() {
        h.topic("promise 17");
        WrongTide x = Harness.told("ware w weighs 1 lifts 0;ship s holds 2 trims 99;ship t holds 2 trims 99;ship u holds 2 trims 99;"
                + "loads t 0 w 10;loads u 0 w 10;berth a from 80 to 100;berth b from 95 to 100;berth c from 200 to 210;lies u a;");
        h.due("how many", x.berthed(0, NONE), 2);
        h.due("ship 0 makes room", x.berthed(0, 0), 1);
        h.due("ship 1 is the first of two", x.berthed(0, 1), 0);
        h.due("ship 2 lies in none", x.berthed(0, 2), NONE);
        h.due("none such", x.berthed(0, 3), NOTHING);
        h.due("none such", x.berthed(0, -2), NOTHING);
        h.due("n below 0", x.berthed(-1, NONE), NOTHING);
        h.due("n is 200", x.berthed(200, NONE), 2);
        h.due("n is 201", x.berthed(201, NONE), NOTHING);
        h.due("n is MAX", x.berthed(Integer.MAX_VALUE, 0), NOTHING);
        h.due("all stays", x.ship(2, 2), 0);
        lateImage(x, 9998);
        h.due("HOUR 9999", x.berthed(1, NONE), 2);
        h.due("beyond HOUR 9999", x.berthed(2, NONE), NOTHING);
        StringBuilder text = new StringBuilder();
        for (char c = 'a'; c < 'g'; c++) {
            text.append("ship ").append(c).append("s holds 2 trims 0;berth ").append(c).append("b from 0 to 9999;");
        }
        WrongTide y = Harness.told(text.toString());
        h.due("six ships, six berths", y.berthed(0, NONE), 6);
        for (int s = 0; s < 6; s++) {
            h.due("each the first berth", y.berthed(0, s), s);
        }
    }

    private void stow() {
        h.topic("promise 18");
        WrongTide x = Harness.told(PORT);
        stow(x, 1, 1, 1, 0);
        h.due("the tape went", x.feed(0, 0, 0, 0, 0), 20);
        x.end(0);
        h.due("all stays", x.has(7), 6);
        stow(x, 0, 1, 0, 0, 0, 0, 0, 0);
        refusedStow(x, "an empty row", 0);
        refusedStow(x, "seven", 0, 0, 0, 0, 0, 0, 0, 0);
        refusedStow(x, "no such ware", 0, 2);
        refusedStow(x, "no such ware", 0, 255);
        refusedStow(x, "no such ship", 2, 0);
        refusedStow(x, "no such ship", -1, 0);
        WrongTide full = Harness.told("ware w weighs 1 lifts 0;ship s holds 2 trims 0;loads s 0 w 20;loads s 1 w 19;");
        stow(full, 0, 0, 0);
        stow(full, 0, NONE, 0, 0);
        h.due("that was not refused", full.status(5), 0);
        WrongTide even = Harness.told("ware w weighs 5 lifts 0;ship s holds 4 trims 0;");
        stow(even, 0, 0, 0, 0);
        h.due("the first of like ones", even.stowed(0), 0);
        h.due("the first of like ones", even.stowed(1), 1);
        stow(even, 0, 5, 0, 0, 0);
        h.due("two fore, one aft", even.stowed(0) * 100 + even.stowed(1) * 10 + even.stowed(2), 1);
    }

    private void stow(WrongTide x, int ship, int want, int... row) {
        Harness.row(x, row);
        h.due("stow(" + ship + ")", x.stow(ship), want);
    }

    private void refusedStow(WrongTide x, String why, int ship, int... row) {
        int before = x.status(5);
        stow(x, ship, NONE, row);
        h.due("refused: " + why, x.status(5), before + 1);
        h.due("the tape went", x.end(1), false);
    }

    private void stowed() {
        h.topic("promise 19");
        WrongTide x = Harness.told(PORT);
        h.due("stowed(0) ahead of any", x.stowed(0), NONE);
        stow(x, 1, 1, 1, 0);
        h.due("stowed(0)", x.stowed(0), 1);
        h.due("stowed(1)", x.stowed(1), 0);
        h.due("stowed(2)", x.stowed(2), NONE);
        h.due("stowed(-1)", x.stowed(-1), NONE);
        h.due("stowed(MAX)", x.stowed(Integer.MAX_VALUE), NONE);
        stow(x, 7, NONE, 1);
        h.due("stowed(0) behind one refused", x.stowed(0), 1);
        x.hours(1);
        x.undo();
        h.due("stowed(1) behind an undo", x.stowed(1), 0);
        WrongTide full = Harness.told("ware w weighs 1 lifts 0;ship s holds 2 trims 0;loads s 0 w 20;loads s 1 w 19;");
        stow(full, 0, 0, 0);
        h.due("into the hold with room", full.stowed(0), 1);
        stow(full, 0, NONE, 0, 0);
        h.due("they could not go in", full.stowed(0), NONE);
    }

    private void order() {
        h.topic("promise 20");
        WrongTide x = Harness.told(PORT);
        order(x, 0, 1, 0, 1, 1, 0, 1, 0, 1, 0);
        h.due("all stays", x.has(7), 6);
        refusedOrder(x, "in no berth", 1, 0, 1);
        refusedOrder(x, "empty", 0);
        refusedOrder(x, "half a crate", 0, 0);
        refusedOrder(x, "half a crate more", 0, 0, 1, 0);
        refusedOrder(x, "no such hold", 0, 4, 0);
        refusedOrder(x, "no such ware", 0, 0, 2);
        refusedOrder(x, "no such ship", 2, 0, 0);
        refusedOrder(x, "no such ship", -1, 0, 0);
        refusedOrder(x, "seven", 0, 0, 0, 0, 0, 0, 0, 0, 0, 0, 0, 0, 0, 0, 0);
        WrongTide calm = Harness.told(CALM + "loads s 0 w 15;");
        order(calm, 0, 1, 0, 0, 0, 0, 0, 0, 0, 0, 0, 0, 1, 1);
        order(calm, 0, 0, 0, 0, 0, 0, 0, 0, 0, 0, 0, 0, 0, 0);
        h.due("no ORDER is not refused", calm.status(5), 0);
        WrongTide may = Harness.told(CALM + "may count<2 and hour=0;");
        order(may, 0, 1, 0, 0);
        order(may, 0, 0, 0, 0, 0, 0);
        may.hours(1);
        order(may, 0, 0, 0, 0);
    }

    private void order(WrongTide x, int ship, int want, int... row) {
        Harness.row(x, row);
        h.due("order(" + ship + ")", x.order(ship), want);
    }

    private void refusedOrder(WrongTide x, String why, int ship, int... row) {
        int before = x.status(5);
        order(x, ship, NONE, row);
        h.due("refused: " + why, x.status(5), before + 1);
        h.due("the tape went", x.end(1), false);
    }

    private void ordered() {
        h.topic("promise 21");
        WrongTide x = Harness.told(PORT);
        h.due("ordered(0) ahead of any", x.ordered(0), NONE);
        order(x, 0, 1, 0, 1, 1, 0, 1, 0, 1, 0);
        int[] due = {1, 2, 3, 0, NONE};
        for (int k = 0; k < due.length; k++) {
            h.due("ordered(" + k + ")", x.ordered(k), due[k]);
        }
        h.due("ordered(-1)", x.ordered(-1), NONE);
        order(x, 1, NONE, 0, 0);
        h.due("behind one refused", x.ordered(0), 1);
        order(x, 0, 0, 0, 1, 0, 1, 0, 1);
        h.due("no ORDER", x.ordered(0), NONE);
        WrongTide y = Harness.told("ware w weighs 5 lifts 0;ship s holds 2 trims 5;berth b from 0 to 100;lies s b;");
        order(y, 0, 1, 0, 0, 0, 0, 1, 0, 1, 0);
        int[] level = {0, 2, 1, 3};
        for (int k = 0; k < level.length; k++) {
            h.due("LEVEL at each step, ordered(" + k + ")", y.ordered(k), level[k]);
        }
    }

    private void swaps() {
        h.topic("promise 22");
        String two = "ware w weighs 4 lifts 0;ware v weighs 1 lifts 0;ship s holds 2 trims 0;ship t holds 2 trims 0;";
        h.due("level already", Harness.told(two).swaps(0, 1), 0);
        WrongTide one = Harness.told(two + "loads s 0 w 1;loads s 1 v 1;loads t 0 v 1;loads t 1 w 1;");
        h.due("one swap", one.swaps(0, 1), 1);
        h.due("one swap, the other way", one.swaps(1, 0), 1);
        h.due("all stays", one.tips(0), 3);
        WrongTide both = Harness.told(two + "loads s 0 w 2;loads s 1 v 2;loads t 0 v 2;loads t 1 w 2;");
        h.due("two swaps", both.swaps(0, 1), 2);
        WrongTide same = Harness.told(two + "ship u holds 2 trims 999;loads s 0 w 2;loads s 1 v 2;loads u 0 v 2;");
        h.due("two swaps of like crates", same.swaps(0, 2), 2);
        h.due("two swaps of like crates", same.swaps(2, 0), 2);
        WrongTide more = Harness.told(two + "loads s 0 w 3;loads s 1 v 3;loads t 0 v 3;loads t 1 w 3;");
        h.due("three would be needed", more.swaps(0, 1), NONE);
        h.due("they are one", one.swaps(0, 0), NONE);
        h.due("none such", one.swaps(0, 2), NONE);
        for (int wild : WILD) {
            h.due("none such", one.swaps(wild, 0), NONE);
            h.due("none such", one.swaps(0, wild), NONE);
        }
        WrongTide first = Harness.told(two + "loads s 0 w 1;loads s 1 v 4;loads t 0 v 1;loads t 1 w 1;");
        h.due("the first one levels, the second one does not", first.swaps(0, 1), NONE);
        h.due("the second one levels, the first one does not", first.swaps(1, 0), NONE);
        WrongTide slack = Harness.told("ware w weighs 4 lifts 0;ware v weighs 1 lifts 0;ship s holds 2 trims 0;ship t holds 2 trims 4;"
                + "loads s 0 w 1;loads s 1 v 1;loads t 1 v 1;");
        h.due("each by its own trims", slack.swaps(0, 1), 1);
        h.due("each by its own trims", slack.swaps(1, 0), 1);
        WrongTide full = Harness.told(two + "loads s 0 w 1;loads s 1 v 1;loads t 0 v 1;loads t 1 w 1;"
                + "loads s 0 v 20;loads s 1 v 20;loads s 1 w 0;loads t 1 v 5;");
        h.due("no hold with more than 20 of a ware", full.swaps(0, 1), NONE);
    }

    private void rode() {
        h.topic("promise 23");
        WrongTide x = Harness.told(PORT);
        rode(x, 0, 1, 0, 0, 0, 106);
        rode(x, 0, 1, 0, 0, 0, 91);
        rode(x, 0, 0, 0, 0, 0, 108);
        rode(x, 1, 1, 0, 0, 0, 106, 0, 5, 0, 106);
        rode(x, 1, 0, 0, 0, 0, 106, 0, 5, 0, 107);
        h.due("nothing refused so far", x.status(5), 0);
        rode(x, 0, 0, 0, 0, 39, 15);
        refusedRode(x, "a height of 10000", 0, 0, 0, 39, 16);
        refusedRode(x, "an hour of 10000", 0, 39, 16, 0, 0);
        refusedRode(x, "empty", 0);
        refusedRode(x, "five bytes", 0, 0, 0, 0, 106, 0);
        refusedRode(x, "three bytes", 0, 0, 0, 0);
        refusedRode(x, "no such ship", 2, 0, 0, 0, 106);
        refusedRode(x, "no such ship", -1, 0, 0, 0, 106);
        refusedRode(x, "eleven rows", 0, new int[44]);
        rode(x, 0, 2, 39, 15, 0, 85);
        rode(x, 0, 9, new int[40]);
        WrongTide all = Harness.told("ware w weighs 1 lifts 1;ware v weighs 1 lifts 1;ship s holds 2 trims 0;rides 7;");
        rode(all, 0, 40, 0, 0, 0, 7);
        WrongTide tips = Harness.told("ware w weighs 5 lifts 1;ship s holds 2 trims 0;loads s 1 w 9;rides tip;");
        rode(tips, 0, 1, 0, 0, 0, 80);
        rode(tips, 0, 0, 0, 0, 0, 84);
        rode(tips, 0, 0, 0, 0, 0, 0);
        WrongTide hour = Harness.told("ware w weighs 5 lifts 1;ship s holds 2 trims 0;rides hour*10+weight;");
        rode(hour, 0, 1, 0, 3, 0, 45, 0, 1, 0, 25);
        rode(hour, 0, 0, 0, 3, 0, 45, 0, 1, 0, 30);
    }

    private void rode(WrongTide x, int ship, int want, int... row) {
        Harness.row(x, row);
        h.due("rode(" + ship + ")", x.rode(ship), want);
    }

    private void refusedRode(WrongTide x, String why, int ship, int... row) {
        int before = x.status(5);
        rode(x, ship, NONE, row);
        h.due("refused: " + why, x.status(5), before + 1);
        h.due("the tape went", x.end(1), false);
    }

    private void lade() {
        h.topic("promise 24");
        WrongTide x = Harness.told(CALM + "loads s 0 w 18;");
        h.due("lade", x.lade(0, 0, 0), 19);
        h.due("lade", x.lade(0, 0, 0), 20);
        h.due("lade beyond 20", x.lade(0, 0, 0), NONE);
        h.due("another hold", x.lade(0, 1, 0), 1);
        h.due("another ware", x.lade(0, 0, 1), 1);
        h.due("no such hold", x.lade(0, 2, 0), NONE);
        h.due("no such ware", x.lade(0, 0, 2), NONE);
        h.due("no such ship", x.lade(1, 0, 0), NONE);
        h.due("status(2)", x.status(2), 4);
        for (int wild : WILD) {
            h.due("lade(wild, 0, 1)", x.lade(wild, 0, 1), NONE);
            h.due("lade(0, wild, 1)", x.lade(0, wild, 1), NONE);
            h.due("lade(0, 0, wild)", x.lade(0, 0, wild), NONE);
        }
        h.due("ACTS", x.has(9), 4);
        x.moor(0, NONE);
        h.due("in no berth", x.lade(0, 1, 0), NONE);
        may("weight<4", 1);
        may("weight<3", NONE);
        may("lift=0", 1);
        may("lift>0", NONE);
        may("tip=3", 1);
        may("tip<3", NONE);
        may("count=1", 1);
        may("count=0", NONE);
        may("height=100", 1);
        may("height>100", NONE);
        may("hour=0", 1);
        may("hour>0", NONE);
    }

    private void may(String test, int want) {
        h.due("may " + test, Harness.told(CALM + "may " + test + ";").lade(0, 0, 1), want);
    }

    private void discharge() {
        h.topic("promise 25");
        WrongTide x = Harness.told(CALM + "loads s 0 w 2;loads s 1 v 3;may count>2;");
        h.due("discharge", x.discharge(0, 0, 0), 1);
        h.due("discharge", x.discharge(0, 0, 0), 0);
        h.due("no crate", x.discharge(0, 0, 0), NONE);
        h.due("may holds no more without it", x.discharge(0, 1, 1), NONE);
        h.due("status(2)", x.status(2), 2);
        h.due("may holds again", x.lade(0, 0, 0), 1);
        h.due("discharge", x.discharge(0, 1, 1), 2);
        h.due("no such hold", x.discharge(0, 2, 0), NONE);
        h.due("no such ware", x.discharge(0, 0, 2), NONE);
        h.due("no such ship", x.discharge(1, 0, 0), NONE);
        x.moor(0, NONE);
        h.due("in no berth", x.discharge(0, 1, 1), NONE);
        h.due("status(2)", x.status(2), 6);
        for (int wild : WILD) {
            h.due("discharge(wild, 0, 0)", x.discharge(wild, 0, 0), NONE);
            h.due("discharge(0, wild, 0)", x.discharge(0, wild, 0), NONE);
            h.due("discharge(0, 0, wild)", x.discharge(0, 0, wild), NONE);
        }
    }

    private void shift() {
        h.topic("promise 26");
        WrongTide x = Harness.told(STORM + "ship z holds 4 trims 0;loads z 0 w 2;loads z 3 w 19;may not all;");
        h.due("shift, though in no berth and may holds not", x.shift(2, 0, 0, 3), true);
        h.due("crates(2, 0, 0)", x.crates(2, 0, 0), 1);
        h.due("the last crate", x.shift(2, 0, 0, 1) && x.undo(), true);
        h.due("crates(2, 3, 0)", x.crates(2, 3, 0), 20);
        h.due("20 there already", x.shift(2, 0, 0, 3), false);
        h.due("into itself", x.shift(2, 0, 0, 0), false);
        h.due("no crate", x.shift(2, 1, 0, 0), false);
        h.due("no such hold", x.shift(2, 0, 0, 4), false);
        h.due("no such hold", x.shift(2, 4, 0, 0), false);
        h.due("no such hold", x.shift(2, 0, 0, -1), false);
        h.due("no such ware", x.shift(2, 0, 2, 1), false);
        h.due("no such ship", x.shift(3, 0, 0, 1), false);
        h.due("status(2)", x.status(2), 8);
        h.due("nothing KEPT", x.has(8), 0);
        h.due("one ACT", x.has(9), 1);
        for (int wild : WILD) {
            h.due("shift(wild, ..)", x.shift(wild, 0, 0, 1), false);
            h.due("shift(.., wild)", x.shift(2, 0, 0, wild), false);
        }
    }

    private void moor() {
        h.topic("promise 27");
        WrongTide x = Harness.told(PORT);
        h.due("brig from pole to quay", x.moor(0, 0), true);
        h.due("pole is empty", x.berth(1, 2), NONE);
        h.due("quay has brig", x.berth(0, 2), 0);
        h.due("where it lies already", x.moor(0, 0), false);
        h.due("hoy is not level", x.moor(1, 1), false);
        h.due("leave", x.moor(0, NONE), true);
        h.due("leave none", x.moor(0, NONE), false);
        h.due("no such berth", x.moor(0, 2), false);
        h.due("no such berth", x.moor(0, -2), false);
        h.due("no such ship", x.moor(2, 0), false);
        h.due("no such ship", x.moor(-1, NONE), false);
        h.due("status(3)", x.status(3), 7);
        h.due("ACTS", x.has(9), 2);
        WrongTide y = Harness.told("ship s holds 2 trims 0;ship t holds 2 trims 0;berth b from 100 to 100;berth c from 101 to 110;lies s b;");
        h.due("one lies in it", y.moor(1, 0), false);
        h.due("rides too low", y.moor(1, 1), false);
        y.moor(0, NONE);
        h.due("rides at both heights", y.moor(1, 0), true);
    }

    private void hours() {
        h.topic("promise 28");
        WrongTide x = Harness.told("ship s holds 2 trims 0;ship t holds 2 trims 0;berth b from 0 to 100;berth c from 0 to 102;"
                + "lies s b;lies t c;water 100+hour;");
        h.due("hours(1)", x.hours(1), 1);
        h.due("s is adrift", x.ship(0, 2), NONE);
        h.due("t lies", x.ship(1, 2), 1);
        h.due("hours(200)", x.hours(200), 1);
        h.due("HOUR", x.has(3), 201);
        h.due("ACTS", x.has(9), 2);
        h.due("hours(0)", x.hours(0), NONE);
        h.due("hours(201)", x.hours(201), NONE);
        h.due("hours(-1)", x.hours(-1), NONE);
        h.due("hours(MAX)", x.hours(Integer.MAX_VALUE), NONE);
        h.due("status(3)", x.status(3), 4);
        h.due("no DRAWS", x.has(10), 1);
        lateImage(x, 9998);
        h.due("beyond HOUR 9999", x.hours(2), NONE);
        h.due("up to HOUR 9999", x.hours(1), 0);
        h.due("HOUR", x.has(3), 9999);
        h.due("beyond HOUR 9999", x.hours(1), NONE);
        h.due("beyond HOUR 9999", x.gales(1), NONE);
        WrongTide back = Harness.told("ship s holds 2 trims 0;berth b from 0 to 100;lies s b;water if(hour=1,101,100);");
        h.due("adrift in between", back.hours(2), 1);
    }

    private void gales() {
        h.topic("promise 29");
        WrongTide x = Harness.told(STORM);
        h.due("gales(1): one of each ship", x.gales(1), 2);
        h.due("the first by holds, then by wares", x.crates(0, 0, 1), 1);
        h.due("the first by holds, then by wares", x.crates(1, 0, 0), 19);
        long seed = Harness.next(Harness.next(1));
        h.due("a DRAW for each", x.has(10), seed);
        h.due("gales(3)", x.gales(3), 2 + 3);
        h.due("s is empty", x.ship(0, 5), 0);
        h.due("HOUR", x.has(3), 4);
        h.due("ACTS", x.has(9), 2);
        for (int k = 0; k < 6; k++) {
            seed = Harness.next(seed);
        }
        h.due("an empty ship draws too", x.has(10), seed);
        h.due("gales(0)", x.gales(0), NONE);
        h.due("gales(201)", x.gales(201), NONE);
        h.due("gales(-1)", x.gales(-1), NONE);
        h.due("status(3)", x.status(3), 3);
        h.due("gales(200)", x.gales(200), 76);
        chance();
        WrongTide calm = Harness.told(CALM + "loads s 0 w 5;gale 100;");
        h.due("a ship that lies loses nothing", calm.gales(9), 0);
        h.due("and draws nothing", calm.has(10), 1);
        WrongTide loose = Harness.told("ware w weighs 0 lifts 0;ship s holds 2 trims 0;loads s 1 w 9;berth b from 0 to 100;"
                + "lies s b;water 100+hour;gale 100;");
        h.due("adrift behind the first hour, it loses in the second", loose.gales(2), 1);
        h.due("and lies in none", loose.has(6), 0);
    }

    private void chance() {
        WrongTide x = Harness.told("ware w weighs 0 lifts 0;ship s holds 2 trims 0;loads s 0 w 20;loads s 1 w 20;gale 37;");
        h.due("seed(12345)", x.seed(12345), true);
        long seed = 12345;
        for (int k = 0; k < 60; k++) {
            seed = Harness.next(seed);
            h.due("lost by a draw below gale", x.gales(1), seed / 64 % 100 < 37 ? 1 : 0);
        }
        h.due("has(10)", x.has(10), seed);
    }

    private void undo() {
        h.topic("promise 30");
        WrongTide x = Harness.told(PORT);
        h.due("nothing to undo", x.undo(), false);
        x.lade(0, 2, 0);
        x.discharge(0, 0, 0);
        x.shift(1, 0, 1, 1);
        x.moor(0, NONE);
        x.hours(2);
        x.gales(3);
        int seed = x.has(10);
        h.due("six ACTS", x.has(9), 6);
        h.due("undo gales", x.undo(), true);
        h.due("the seed stays", x.has(10), seed);
        h.due("HOUR", x.has(3), 2);
        x.undo();
        h.due("HOUR", x.has(3), 0);
        x.undo();
        h.due("brig lies again", x.ship(0, 2), 1);
        x.undo();
        h.due("crates(1, 0, 1)", x.crates(1, 0, 1), 2);
        h.due("KEPT", x.has(8), 2);
        x.undo();
        h.due("KEPT is as it was", x.has(8), 1);
        h.due("crates(0, 0, 0)", x.crates(0, 0, 0), 3);
        x.undo();
        h.due("crates(0, 2, 0)", x.crates(0, 2, 0), 0);
        h.due("ACTS", x.has(9), 0);
        h.due("nothing to undo", x.undo(), false);
        h.due("status(4)", x.status(4), 2);
        WrongTide y = new WrongTide();
        for (int k = 1; k <= 25; k++) {
            y.hours(1);
            h.due("ACTS that can be undone", y.has(9), Math.min(k, 20));
        }
        for (int k = 0; k < 20; k++) {
            h.due("undo", y.undo(), true);
        }
        h.due("the 21st", y.undo(), false);
        h.due("HOUR", y.has(3), 5);
        WrongTide z = Harness.told(STORM);
        z.gales(1);
        z.gales(80);
        z.undo();
        h.due("KEPT that had gone is told again", z.has(8), 2);
        h.due("its HOUR", z.kept(1, 0), 0);
    }

    private void seed() {
        h.topic("promise 31");
        WrongTide x = new WrongTide();
        h.due("seed(0)", x.seed(0), true);
        h.due("has(10)", x.has(10), 0);
        h.due("seed(MAX)", x.seed(Integer.MAX_VALUE), true);
        h.due("has(10)", x.has(10), Integer.MAX_VALUE);
        h.due("seed(-1)", x.seed(-1), false);
        h.due("seed(MIN)", x.seed(Integer.MIN_VALUE), false);
        h.due("has(10)", x.has(10), Integer.MAX_VALUE);
        h.due("status(5)", x.status(5), 2);
        Harness.harbour(x, STORM);
        x.gales(1);
        h.due("two DRAWS from MAX", x.has(10), Harness.next(Harness.next(Integer.MAX_VALUE)));
    }

    private void kept() {
        h.topic("promise 32");
        WrongTide x = Harness.told(CALM);
        x.hours(7);
        x.lade(0, 1, 1);
        x.hours(2);
        x.discharge(0, 1, 1);
        x.shift(0, 1, 1, 0);
        int[][] due = {{7, 0, 1, 1, 1, NONE}, {9, 0, 1, 1, 0, NONE}};
        for (int k = 0; k < 2; k++) {
            for (int what = 0; what < 6; what++) {
                h.due("kept(" + k + ", " + what + ")", x.kept(k, what), due[k][what]);
            }
        }
        h.due("kept(2, 0)", x.kept(2, 0), NONE);
        for (int wild : WILD) {
            h.due("kept(wild, 0)", x.kept(wild, 0), NONE);
            h.due("kept(0, wild)", x.kept(0, wild), NONE);
        }
        WrongTide y = Harness.told(STORM);
        y.gales(2);
        int[][] lost = {{0, 0, 0, 1, 2}, {0, 1, 0, 0, 2}, {1, 0, 0, 1, 2}, {1, 1, 0, 0, 2}};
        for (int k = 0; k < 4; k++) {
            for (int what = 0; what < 5; what++) {
                h.due("lost kept(" + k + ", " + what + ")", y.kept(k, what), lost[k][what]);
            }
        }
        y.gales(60);
        h.due("the last 60 are told", y.has(8), 60);
        h.due("the oldest told", y.kept(0, 0), 2);
        h.due("the newest", y.kept(59, 0), 61);
        h.due("one too many", y.kept(60, 0), NONE);
        h.due("its hold", y.kept(59, 2), 1);
    }

    private void image() {
        h.topic("promise 33");
        h.due("of a new object", new WrongTide().image(), 3);
        WrongTide x = Harness.told(PORT);
        h.due("image()", x.image(), 2 + 1 + 8 + 1 + 4 + 1);
        StringBuilder text = new StringBuilder();
        for (char c = 'a'; c < 'g'; c++) {
            text.append("ship ").append(c).append("s holds 4 trims 0;ware ").append(c).append("w weighs 1 lifts 0;");
        }
        h.due("of the largest harbour", Harness.told(text.toString()).image(), 153);
        h.due("of ships without wares", Harness.told("ship s holds 4 trims 0;").image(), 4);
    }

    private void octet() {
        h.topic("promise 34");
        WrongTide x = Harness.told(PORT);
        h.due("octet(0) ahead of any", x.octet(0), NONE);
        x.moor(0, NONE);
        x.moor(0, 0);
        x.hours(200);
        x.hours(100);
        x.image();
        int[] row = Harness.sealed(new int[] {1, 44, 1, 3, 0, 0, 1, 0, 0, 0, 0, 0, 0, 2, 0, 0, 0});
        row[2] = x.ship(0, 2) + 1;
        Harness.sealed(row);
        for (int k = 0; k < row.length; k++) {
            h.due("octet(" + k + ")", x.octet(k), row[k]);
        }
        h.due("octet(17)", x.octet(17), NONE);
        h.due("octet(-1)", x.octet(-1), NONE);
        h.due("octet(MAX)", x.octet(Integer.MAX_VALUE), NONE);
        x.hours(1);
        h.due("the latest image() stays", x.octet(1), 44);
        Harness.harbour(x, "");
        h.due("with a new harbour too", x.octet(3), 3);
        x.image();
        h.due("until the next one", x.octet(3), NONE);
        h.due("its last byte", x.octet(2), (5 * (5 * 139 % 251) % 251));
    }

    private void on() {
        h.topic("promise 35");
        WrongTide x = Harness.told(PORT);
        x.lade(0, 2, 0);
        stow(x, 1, 1, 1, 0);
        int[] row = Harness.sealed(new int[] {39, 15, 2, 20, 1, 2, 3, 4, 5, 6, 7, 1, 8, 9, 10, 11, 0});
        Harness.row(x, row);
        h.due("on()", x.on(), true);
        h.due("HOUR", x.has(3), 9999);
        h.due("brig lies in pole", x.ship(0, 2), 1);
        h.due("hoy lies in quay", x.ship(1, 2), 0);
        h.due("crates(0, 0, 0)", x.crates(0, 0, 0), 20);
        h.due("crates(0, 3, 1)", x.crates(0, 3, 1), 7);
        h.due("crates(1, 1, 1)", x.crates(1, 1, 1), 11);
        h.due("nothing is KEPT", x.has(8), 0);
        h.due("no ACT can be undone", x.has(9), 0);
        h.due("what was stowed stays", x.stowed(0), 1);
        h.due("the tape went", x.end(1), false);
        spoilt(x, row, 0, 39, 1, 16, "HOUR 10000");
        spoilt(x, row, 2, 3, 11, 1, "no such berth");
        spoilt(x, row, 2, 1, 11, 1, "two in a berth");
        spoilt(x, row, 3, 21, 4, 0, "21 crates");
        int[] sum = row.clone();
        sum[16] = (sum[16] + 1) % 251;
        refusedOn(x, sum, "a wrong last byte");
        refusedOn(x, java.util.Arrays.copyOf(row, 16), "a byte less");
        refusedOn(x, java.util.Arrays.copyOf(row, 18), "a byte more");
        refusedOn(x, new int[0], "nothing");
        h.due("all stays", x.has(3), 9999);
        h.due("all stays", x.crates(1, 0, 0), 8);
        int[] none = Harness.sealed(new int[] {0, 0, 0, 0, 0, 0, 0, 0, 0, 0, 0, 0, 0, 0, 0, 0, 0});
        Harness.row(x, none);
        h.due("two ships may lie in none", x.on(), true);
        h.due("lying", x.has(6), 0);
    }

    private void spoilt(WrongTide x, int[] row, int at, int octet, int other, int otherOctet, String why) {
        int[] copy = row.clone();
        copy[at] = octet;
        copy[other] = otherOctet;
        refusedOn(x, Harness.sealed(copy), why);
    }

    private void refusedOn(WrongTide x, int[] row, String why) {
        int before = x.status(5);
        Harness.row(x, row);
        h.due("on(): " + why, x.on(), false);
        h.due("refused: " + why, x.status(5), before + 1);
        h.due("the tape went", x.end(1), false);
    }

    private void status() {
        h.topic("promise 36");
        WrongTide x = Harness.told(CALM);
        x.end(-1);
        Harness.harbour(x, "x");
        Harness.harbour(x, "y");
        x.lade(9, 0, 0);
        x.discharge(9, 0, 0);
        x.shift(9, 0, 0, 1);
        x.moor(9, 0);
        x.hours(0);
        x.gales(0);
        x.hours(999);
        x.undo();
        x.undo();
        x.undo();
        x.undo();
        x.undo();
        x.seed(-1);
        x.stow(0);
        x.order(0);
        x.rode(0);
        x.on();
        x.on();
        int[] due = {1, 2, 3, 4, 5, 6};
        for (int what = 0; what < 6; what++) {
            h.due("status(" + what + ")", x.status(what), due[what]);
        }
        h.due("status(6)", x.status(6), NONE);
        for (int wild : WILD) {
            h.due("status(wild)", x.status(wild), NONE);
        }
        Harness.harbour(x, CALM);
        h.due("a new harbour leaves them", x.status(5), 6);
    }
}
