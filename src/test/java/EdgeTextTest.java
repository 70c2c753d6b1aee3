import java.util.Arrays;

/**
 * The sentences of part I of the document's Terms that name a bound, one method each: the last value that is
 * allowed and the first one that is not, on either side, with the fault and its place.
 */
public final class EdgeTextTest {
    private static final String WARE = "ware w weighs 1 lifts 1;";
    private static final String SHIP = "ship s holds 2 trims 5;";
    private static final String BERTH = "berth b from 0 to 9;";
    private static final String OWN = "ware weighs lifts ship holds trims loads berth from to lies water moon rides may gale hour weight "
            + "lift tip count height if or and not all min max";

    private final Harness h = new Harness();

    public static void main(String[] args) {
        EdgeTextTest test = new EdgeTextTest();
        test.texts();
        test.formulas();
        test.faults();
        test.h.finish("EdgeTextTest");
    }

    private void texts() {
        statementsEighty();
        sixOfAKind();
        wares();
        ships();
        loads();
        lastLoads();
        berths();
        lies();
        oneEach();
        gale();
    }

    private void formulas() {
        fromTheLeft();
        greatestWhole();
        byNought();
        millions();
        choices();
        signs();
        sights();
    }

    private void faults() {
        names();
        namesUnlike();
        namesAhead();
        numbers();
        blanks();
        wordsLeftOut();
        sideBySide();
        ownWords();
        endsTooSoon();
        seventhLetter();
        openAtOnce();
        deepest();
        firstAlongTheText();
        faultsLeaveAll();
    }

    private WrongTide good(String text, int statements) {
        WrongTide x = new WrongTide();
        h.due("harbour() of " + text, Harness.harbour(x, text), statements);
        h.due("fault(0) of " + text, x.fault(0), 0);
        h.due("fault(1) of " + text, x.fault(1), WrongTide.NONE);
        return x;
    }

    /** The fault is at the first byte of the text's second part. */
    private void bad(String ahead, String rest, int fault) {
        WrongTide x = new WrongTide();
        String text = ahead + rest;
        h.due("harbour() of " + text, Harness.harbour(x, text), WrongTide.NONE);
        h.due("fault(0) of " + text, x.fault(0), fault);
        h.due("fault(1) of " + text, x.fault(1), ahead.length());
        h.due("status(1) of " + text, x.status(1), 1);
    }

    /** A number from least to most stands between two parts of a text; statements is how many they tell. */
    private void edge(String ahead, String behind, int least, int most, int statements) {
        good(ahead + least + behind, statements);
        good(ahead + most + behind, statements);
        if (least > 0) {
            bad(ahead, least - 1 + behind, 4);
            bad(ahead, 0 + behind, 4);
        }
        if (most < 9999) {
            bad(ahead, most + 1 + behind, 4);
            bad(ahead, 9999 + behind, 4);
        } else {
            bad(ahead + "1000", "0" + behind, 1);
        }
    }

    private static String six(String ahead, String behind) {
        StringBuilder text = new StringBuilder();
        for (char c = 'a'; c < 'g'; c++) {
            text.append(ahead).append(c).append(behind);
        }
        return text.toString();
    }

    // ---- what a text tells

    private void statementsEighty() {
        h.topic("{ STATEMENT ; } (80 at most)");
        good("", 0);
        good("gale 1;", 1);
        good("gale 1;".repeat(79), 79);
        good("gale 1;".repeat(80), 80);
        good("gale 1;".repeat(80) + "\n ".repeat(520), 80);
        String eighty = WARE + SHIP + BERTH + "gale 1;".repeat(77);
        String[] more = {"ware v weighs 1 lifts 1;", "ship t holds 2 trims 1;", "loads s 0 w 1;", "berth c from 1 to 1;",
            "lies s b;", "water 1;", "moon 1;", "rides 1;", "may all;", "gale 1;", "gale 101;", "ware w", "lies b", "loads",
            "gale 12345;", "warewareware"};
        for (String statement : more) {
            bad(eighty, statement, 6);
            bad(eighty + "\n ", statement, 6);
        }
        bad("water 1;" + "gale 1;".repeat(79), "water 1;", 6);
        bad("gale 1;".repeat(79), "galf 1;", 1);
        good(eighty.substring(0, eighty.length() - 7) + "lies s b;", 80);
    }

    private void sixOfAKind() {
        h.topic("6 WARES, 6 SHIPS, 6 BERTHS");
        String[][] kinds = {{"ware ", " weighs 1 lifts 1;"}, {"ship ", " holds 2 trims 1;"}, {"berth ", " from 1 to 1;"}};
        for (int kind = 0; kind < 3; kind++) {
            String all = six(kinds[kind][0], kinds[kind][1]);
            h.due("six of kind " + kind, good(all, 6).has(kind), 6);
            bad(all, kinds[kind][0] + "g" + kinds[kind][1], 6);
            bad(all, kinds[kind][0] + "a" + kinds[kind][1], 6);
            bad(all, kinds[kind][0].trim(), 6);
            bad(all + "gale 1; ", kinds[kind][0] + "7", 6);
            good(all + kinds[(kind + 1) % 3][0] + "g" + kinds[(kind + 1) % 3][1], 7);
        }
        WrongTide x = good(six("ware w", " weighs 1 lifts 1;") + six("ship s", " holds 2 trims 1;") + six("berth b", " from 1 to 1;"), 18);
        for (int kind = 0; kind < 3; kind++) {
            h.due("the sixth is there", x.letter(kind, 5, 1), 6);
            h.due("a seventh is not", x.letter(kind, 6, 1), WrongTide.NONE);
        }
    }

    private void wares() {
        h.topic("ware NAME weighs N lifts N (0 .. 99 each)");
        edge("ware w weighs ", " lifts 1;", 0, 99, 1);
        edge("ware w weighs 1 lifts ", ";", 0, 99, 1);
        WrongTide x = good("ware w weighs 0 lifts 99;ware v weighs 99 lifts 0;", 2);
        h.due("ware(0, 0)", x.ware(0, 0), 0);
        h.due("ware(0, 1)", x.ware(0, 1), 99);
        h.due("ware(1, 0)", x.ware(1, 0), 99);
        h.due("ware(1, 1)", x.ware(1, 1), 0);
    }

    private void ships() {
        h.topic("ship NAME holds N trims N (2 .. 4 HOLDS; 0 .. 999)");
        edge("ship s holds ", " trims 1;", 2, 4, 1);
        edge("ship s holds 2 trims ", ";", 0, 999, 1);
        WrongTide x = good("ship s holds 2 trims 999;ship t holds 4 trims 0;ship u holds 3 trims 1;", 3);
        h.due("ship(0, 0)", x.ship(0, 0), 2);
        h.due("ship(1, 0)", x.ship(1, 0), 4);
        h.due("ship(2, 0)", x.ship(2, 0), 3);
        h.due("ship(0, 1)", x.ship(0, 1), 999);
        h.due("ship(1, 1)", x.ship(1, 1), 0);
    }

    private void loads() {
        h.topic("loads NAME N NAME N (one of its HOLDS from 0 on, 0 .. 20 crates)");
        for (int holds = 2; holds <= 4; holds++) {
            String text = WARE + "ship s holds " + holds + " trims 5;loads s ";
            edge(text, " w 1;", 0, holds - 1, 3);
            WrongTide x = good(text + (holds - 1) + " w 20;", 3);
            h.due("the last hold is loaded", x.crates(0, holds - 1, 0), 20);
            h.due("the one ahead of it is not", x.crates(0, holds - 2, 0), 0);
        }
        edge(WARE + SHIP + "loads s 0 w ", ";", 0, 20, 3);
    }

    private void lastLoads() {
        h.topic("the last one of these three counts; 0 without");
        WrongTide none = good(WARE + SHIP, 2);
        h.due("0 without", none.crates(0, 0, 0), 0);
        h.due("0 without", none.has(7), 0);
        WrongTide x = good(WARE + SHIP + "ware v weighs 1 lifts 1;ship t holds 2 trims 5;loads s 0 w 20;loads s 1 w 3;loads s 0 v 4;"
                + "loads t 0 w 5;loads s 0 w 2;", 9);
        h.due("the last one", x.crates(0, 0, 0), 2);
        h.due("another hold", x.crates(0, 1, 0), 3);
        h.due("another ware", x.crates(0, 0, 1), 4);
        h.due("another ship", x.crates(1, 0, 0), 5);
        WrongTide y = good(WARE + SHIP + "loads s 0 w 20;loads s 0 w 0;", 4);
        h.due("the last one is 0", y.crates(0, 0, 0), 0);
    }

    private void berths() {
        h.topic("berth NAME from N to N (heights 0 .. 9999, the second one no less)");
        edge("berth b from ", " to 9999;", 0, 9999, 1);
        edge("berth b from 0 to ", ";", 0, 9999, 1);
        edge("berth b from 1 to ", ";", 1, 9999, 1);
        edge("berth b from 500 to ", ";", 500, 9999, 1);
        edge("berth b from 9999 to ", ";", 9999, 9999, 1);
        WrongTide x = good("berth b from 0 to 0;berth c from 9999 to 9999;berth d from 0 to 9999;", 3);
        int[][] due = {{0, 0}, {9999, 9999}, {0, 9999}};
        for (int berth = 0; berth < 3; berth++) {
            h.due("first height", x.berth(berth, 0), due[berth][0]);
            h.due("second height", x.berth(berth, 1), due[berth][1]);
        }
    }

    private void lies() {
        h.topic("lies NAME NAME (a SHIP, a BERTH in which none lies; the SHIP lies in none so far)");
        String two = SHIP + "ship t holds 2 trims 0;" + BERTH + "berth c from 0 to 9;lies s b;";
        WrongTide x = good(two + "lies t c;", 6);
        h.due("ship(0, 2)", x.ship(0, 2), 0);
        h.due("ship(1, 2)", x.ship(1, 2), 1);
        bad(two + "lies ", "s c;", 3);
        bad(two + "lies ", "s b;", 3);
        bad(two + "lies t ", "b;", 3);
        bad(two + "lies ", "b s;", 3);
        h.due("it need not be SAFE there", good(SHIP + "berth b from 0 to 0;lies s b;", 3).ship(0, 2), 0);
        h.due("none without", good(SHIP + BERTH, 2).ship(0, 2), WrongTide.NONE);
    }

    private void oneEach() {
        h.topic("water SUM, moon SUM, rides SUM, may TEST (one each)");
        String[] four = {"water 1;", "moon 1;", "rides 1;", "may 1=1;"};
        for (String first : four) {
            good(first, 1);
            bad(first, first, 6);
            bad(first + "gale 1;\n", first.substring(0, first.indexOf(' ')), 6);
            for (String second : four) {
                if (!first.equals(second)) {
                    good(first + second, 2);
                }
            }
        }
        good("may 1=1;rides 1;moon 1;water 1;", 4);
    }

    private void gale() {
        h.topic("gale N (0 .. 100; the last one counts, 0 without)");
        edge("gale ", ";", 0, 100, 1);
        String port = "ware w weighs 0 lifts 0;ship s holds 2 trims 0;loads s 0 w 5;";
        h.due("0 without", good(port, 3).gales(200), 0);
        h.due("0", good(port + "gale 0;", 4).gales(200), 0);
        h.due("100", good(port + "gale 100;", 4).gales(3), 3);
        h.due("the last one counts", good(port + "gale 100;gale 0;", 5).gales(200), 0);
        h.due("the last one counts", good(port + "gale 0;gale 100;", 5).gales(2), 2);
    }

    // ---- sums and tests, by what water is in HOUR 7

    private void sum(String text, int want) {
        h.due("water " + text, good("water " + text + ";", 1).tide(7, 0), want);
    }

    private void holds(String test, boolean want) {
        sum("if(" + test + ",1,2)", want ? 1 : 2);
    }

    private void fromTheLeft() {
        h.topic("All from the left on");
        sum("20-5-3", 12);
        sum("20-5+3", 18);
        sum("80/4/2", 10);
        sum("80/4*2", 40);
        sum("80%30/4*3", 15);
        sum("7*5%4", 3);
        sum("2+3*4", 14);
        sum("2*3+4*5", 26);
        sum("20-(5-3)", 18);
        sum("80/(4*2)", 10);
        holds("all or all and not all", true);
        holds("not all and not all or all", true);
        holds("not all or not all and all", false);
        holds("not all and all", false);
        holds("not [all and not all]", true);
        String[] hold = {"1=1", "1<2", "2>1", "all", "[all]", "not 1=2", "not not all", "[1=1 or 1=2]"};
        String[] fail = {"1=2", "2<1", "1>2", "not all", "[not all]", "not 1=1", "[1=1 and 1=2]"};
        for (String a : hold) {
            holds(a, true);
            holds("not " + a, false);
            for (String b : hold) {
                holds(a + " and " + b, true);
                holds(a + " or " + b, true);
            }
            for (String b : fail) {
                holds(a + " and " + b, false);
                holds(b + " and " + a, false);
                holds(a + " or " + b, true);
                holds(b + " or " + a, true);
            }
        }
        for (String a : fail) {
            holds(a, false);
            holds("not " + a, true);
            for (String b : fail) {
                holds(a + " and " + b, false);
                holds(a + " or " + b, false);
            }
        }
    }

    private void greatestWhole() {
        h.topic("/ gives the greatest whole number not above, % what is left (a less b times that)");
        int[][] due = {{7, 2, 3, 1}, {6, 2, 3, 0}, {1, 2, 0, 1}, {0, 2, 0, 0}, {2, 7, 0, 2}, {-7, 2, -4, 1}, {-6, 2, -3, 0},
            {-1, 2, -1, 1}, {7, -2, -4, -1}, {6, -2, -3, 0}, {1, -2, -1, -1}, {-7, -2, 3, -1}, {-6, -2, 3, 0}, {-1, -2, 0, -1},
            {9999, 1, 9999, 0}, {9999, 9999, 1, 0}, {9998, 9999, 0, 9998}, {-1, 9999, -1, 9998}, {5, -1, -5, 0}};
        for (int[] row : due) {
            holds(number(row[0]) + "/" + number(row[1]) + "=" + number(row[2]), true);
            holds(number(row[0]) + "%" + number(row[1]) + "=" + number(row[3]), true);
        }
    }

    private static String number(int n) {
        return n < 0 ? "(0-" + -n + ")" : Integer.toString(n);
    }

    private void byNought() {
        h.topic("by 0 both give 0");
        sum("5/0", 0);
        sum("5%0", 0);
        sum("9+5/0", 9);
        sum("9+5%0", 9);
        sum("9+0/0", 9);
        sum("9+0%0", 9);
        sum("9+(0-5)/(hour-7)", 9);
        sum("9+(0-5)%(hour-7)", 9);
        sum("5/(hour-6)", 5);
        sum("if(all,3,4/0)", 3);
    }

    private void millions() {
        h.topic("each result above 10 to the 6 is that, below -10 to the 6 likewise");
        String million = "1000*1000";
        String below = "(0-1000)*1000";
        holds("999*1001<" + million, true);
        holds("999*1001+1=" + million, true);
        holds("999*1001+2=" + million, true);
        holds("1001*1000=" + million, true);
        holds(million + "+1=" + million, true);
        holds(million + "+1-1<" + million, true);
        holds(million + "+9999-1=999*1001", true);
        holds("9999*9999*0+1=1", true);
        holds("9999*9999*9999*9999=" + million, true);
        holds("(0-999)*1001>" + below, true);
        holds("(0-999)*1001-1=" + below, true);
        holds("(0-999)*1001-2=" + below, true);
        holds("(0-1001)*1000=" + below, true);
        holds(below + "-1=" + below, true);
        holds(below + "-1+1>" + below, true);
        holds(below + "-9999+1=(0-999)*1001", true);
        holds("(0-9999)*9999*9999=" + below, true);
        holds("(0-9999)*9999*(0-9999)=" + million, true);
        sum("9999*9999/1000", 1000);
        sum("9999*9999%9999", 1000000 % 9999);
        sum("0-" + below + "/1000", 1000);
        holds(million + "/(0-1)=" + below, true);
        holds(below + "/(0-1)=" + million, true);
        holds("min(" + million + ",9999*9999)=" + million, true);
    }

    private void choices() {
        h.topic("min, max, if (the first SUM where the TEST holds, else the second one)");
        sum("min(3,4)", 3);
        sum("min(4,3)", 3);
        sum("min(3,3)", 3);
        sum("max(3,4)", 4);
        sum("max(4,3)", 4);
        sum("max(3,3)", 3);
        sum("9+min(0-1,0)", 8);
        sum("9+max(0-1,0)", 9);
        sum("if(1=1,3,4)", 3);
        sum("if(1=2,3,4)", 4);
        sum("if(1=1,if(1=2,3,4),5)", 4);
        sum("if(1=2,5,if(1=1,3,4))", 3);
    }

    private void signs() {
        h.topic("SUM SIGN SUM, SIGN < or > or =");
        for (int a = 1; a <= 3; a++) {
            holds(a + "<2", a == 1);
            holds(a + "=2", a == 2);
            holds(a + ">2", a == 3);
            holds("not " + a + "<2", a != 1);
        }
        holds("0-1<0", true);
        holds("0-1>0", false);
        holds("all", true);
        holds("not all", false);
        bad("may 1", "!=2;", 1);
        bad("may 1<", "=2;", 1);
        bad("may 1<2", "<3;", 1);
    }

    private void sights() {
        h.topic("hour; in rides: water; moon; weight; lift; tip; in may: weight; lift; tip; count; height");
        String all = "hour water moon weight lift tip count height";
        String[][] due = {{"water ", "hour"}, {"moon ", "hour"}, {"rides ", "hour water moon weight lift tip"},
            {"may 1=", "hour weight lift tip count height"}};
        for (String[] row : due) {
            for (String word : all.split(" ")) {
                if ((" " + row[1] + " ").contains(" " + word + " ")) {
                    good(row[0] + word + ";", 1);
                    good(row[0] + "if(" + word + ">1,1,2);", 1);
                } else {
                    bad(row[0], word + ";", 1);
                    bad(row[0] + "if(", word + ">1,1,2);", 1);
                }
            }
        }
    }

    // ---- names, numbers, blanks, faults

    private void names() {
        h.topic("NAMES: 1 to 6 letters");
        WrongTide x = good("ware a weighs 1 lifts 1;ship abcdef holds 2 trims 1;berth zzzzzz from 1 to 1;", 3);
        h.due("one letter", x.letter(0, 0, 0), 1);
        h.due("none behind it", x.letter(0, 0, 1), 0);
        h.due("six letters", x.letter(1, 0, 5), 6);
        h.due("the last letter", x.letter(2, 0, 5), 26);
        bad("ware abcdef", "g weighs 1 lifts 1;", 1);
        bad("ship abcdef", "g holds 2 trims 1;", 1);
        bad("berth abcdef", "g from 1 to 1;", 1);
        bad("ware ", "weighs 1 lifts 1;", 1);
        bad("ware ", "A weighs 1 lifts 1;", 1);
        bad("ware a", "B weighs 1 lifts 1;", 1);
        bad("ware ", "1 weighs 1 lifts 1;", 1);
        for (char c = 'a'; c <= 'z'; c++) {
            h.due("the letter " + c, good("ware " + c + " weighs 1 lifts 1;", 1).letter(0, 0, 0), c - 'a' + 1);
        }
        bad("ware ", "` weighs 1 lifts 1;", 1);
        bad("ware ", "{ weighs 1 lifts 1;", 1);
    }

    private void namesUnlike() {
        h.topic("unlike ones (of all sorts): fault 2 at its first byte");
        String[] given = {"ware n weighs 1 lifts 1;", "ship n holds 2 trims 1;", "berth n from 1 to 1;"};
        for (String first : given) {
            for (String second : given) {
                int at = second.indexOf(" n ") + 1;
                bad(first + second.substring(0, at), second.substring(at), 2);
                bad(first + second.substring(0, at), "n", 2);
            }
            good(first + "ware nn weighs 1 lifts 1;", 2);
            good(first + "ware m weighs 1 lifts 1;", 2);
        }
        good("ware abcdef weighs 1 lifts 1;ware abcdeg weighs 1 lifts 1;ware abcde weighs 1 lifts 1;ware bbcdef weighs 1 lifts 1;", 4);
        bad("ware abcdef weighs 1 lifts 1;ship ", "abcdef", 2);
        bad("ware abcdef weighs 1 lifts 1;ship abcdef", "g", 1);
    }

    private void namesAhead() {
        h.topic("told ahead of where they are asked; a NAME that is none of what is asked: fault 3 at its first byte");
        bad("loads ", "s 0 w 1;" + SHIP + WARE, 3);
        bad(SHIP + "loads s 0 ", "w 1;" + WARE, 3);
        bad("lies ", "s b;" + SHIP + BERTH, 3);
        bad(SHIP + "lies s ", "b;" + BERTH, 3);
        String all = SHIP + WARE + BERTH;
        good(all + "loads s 0 w 1;lies s b;", 5);
        bad(all + "loads ", "w 0 w 1;", 3);
        bad(all + "loads ", "b 0 w 1;", 3);
        bad(all + "loads s 0 ", "s 1;", 3);
        bad(all + "loads s 0 ", "b 1;", 3);
        bad(all + "loads s 0 ", "ww 1;", 3);
        bad(all + "lies ", "w b;", 3);
        bad(all + "lies s ", "w;", 3);
        bad(all + "lies s ", "s;", 3);
        bad(all + "lies s ", "bb;", 3);
    }

    private void numbers() {
        h.topic("NUMBERS: 1 to 4 digits");
        h.due("one digit", good("water 7;", 1).has(4), 7);
        h.due("four digits", good("water 9999;", 1).has(4), 9999);
        h.due("four digits", good("water 0001;", 1).has(4), 1);
        h.due("0", good("water 0;", 1).has(4), 0);
        bad("water 9999", "9;", 1);
        bad("water 0000", "0;", 1);
        bad("gale 0010", "0;", 1);
        bad("gale 1234", "567", 1);
        good("gale 0100;", 1);
        bad("gale ", "0101;", 4);
        bad("gale ", "-1;", 1);
        bad("gale ", "+1;", 1);
        bad("gale 1", ".5;", 1);
    }

    private void blanks() {
        h.topic("Blanks (10, 32) are where one likes");
        good(" \n\n  gale \n 7 \n ; \n", 1);
        good("\nship\ns\nholds\n2\ntrims\n5\n;\nwater\n(\n1\n+\n2\n)\n*\nmin\n(\n1\n,\n2\n)\n;\nmay\n[\nnot\nall\n]\n;", 3);
        for (int octet = 0; octet < 256; octet++) {
            char c = (char) octet;
            boolean blank = octet == 10 || octet == 32;
            boolean letter = octet >= 'a' && octet <= 'z';
            if (blank) {
                good("gale 7;" + c, 1);
                good("gale" + c + "7;", 1);
                good("gale 7" + c + ";", 1);
            } else {
                bad("gale 7;", String.valueOf(c), 1);
                bad(letter ? "" : "gale", (letter ? "gale" : "") + c + "7;", 1);
                bad("gale 7;gale ", c >= '0' && c <= '9' ? "999;" : String.valueOf(c), c >= '0' && c <= '9' ? 4 : 1);
            }
        }
    }

    private void wordsLeftOut() {
        h.topic("1 the first byte with which no HARBOUR goes on: a word, a number, a sign left out");
        String all = SHIP + WARE + BERTH;
        String[] statements = {"ware v weighs 9 lifts 8 ;", "ship t holds 3 trims 7 ;", "berth c from 4 to 6 ;", "loads s 1 w 5 ;", "gale 3 ;"};
        for (String statement : statements) {
            good(all + statement, 4);
            String[] parts = statement.split(" ");
            for (int k = 0; k < parts.length; k++) {
                String ahead = String.join(" ", Arrays.copyOf(parts, k)) + " ";
                bad(all + ahead, String.join(" ", Arrays.copyOfRange(parts, k + 1, parts.length)), 1);
            }
        }
        String[][] formulas = {{"lies s ", ";"}, {"lies s b ", "gale 1;"}, {"water ", ";"}, {"water 1 ", "2;"}, {"water 1 ", "hour;"},
            {"water (1)", "(2);"}, {"water (1", ";"}, {"water 1", ");"}, {"water ", ");"}, {"water (", ");"}, {"water ", "+1;"},
            {"water 1+", "*2;"}, {"water min ", "1,2);"}, {"water min(", ",2);"}, {"water min(1 ", "2);"}, {"water min(1", ");"},
            {"water min(1,", ");"}, {"water max(1,2", ";"}, {"water max(1,2", ",3);"}, {"water if ", "all,1,2);"}, {"water if(", ",2,3);"},
            {"water if(all ", "1,2);"}, {"water if(all,1 ", "2);"}, {"water if(all,1", ");"}, {"water if(all,1,2", ";"}, {"may ", ";"},
            {"may 1", ";"}, {"may 1 ", "2;"}, {"may (1)", "(2);"}, {"may 1=", ";"}, {"may ", "=1;"}, {"may 1=1 ", "2=2;"},
            {"may all ", "all;"}, {"may all ", "not all;"}, {"may all and ", ";"}, {"may all or ", "or all;"}, {"may not ", ";"},
            {"may [", "];"}, {"may [all", ";"}, {"may all", "];"}, {"may [all", ");"}, {"may (1", "]=1;"}};
        for (String[] pair : formulas) {
            bad(all + pair[0], pair[1], 1);
        }
    }

    private void sideBySide() {
        h.topic("words and numbers side by side need one");
        bad("gale", "7;", 1);
        bad("ware w weighs", "1 lifts 1;", 1);
        bad("ware w weighs 1", "lifts 1;", 1);
        bad("ware w weighs 1 lifts", "1;", 1);
        bad("ship s holds", "2 trims 1;", 1);
        bad("ship s holds 2", "trims 1;", 1);
        bad("berth b from", "1 to 1;", 1);
        bad("berth b from 1", "to 1;", 1);
        bad("berth b from 1 to", "1;", 1);
        bad(SHIP + WARE + "loads s", "0 w 1;", 1);
        bad(SHIP + WARE + "loads s 0", "w 1;", 1);
        bad(SHIP + WARE + "loads s 0 w", "1;", 1);
        bad("water", "7;", 1);
        bad("may 1=1", "or all;", 1);
        bad("may 1=1", "and all;", 1);
        bad("may not", "1=1;", 1);
        bad("", "warew weighs 1 lifts 1;", 1);
        good("water(7)+min(1,2)*(hour);may[1=1]and[2=2]or not[3=3]and not(1)=2;rides(1);moon(hour)%5;gale 7;", 5);
        good("gale 1;gale 2;ship s holds 2 trims 5;ware w weighs 1 lifts 1;", 4);
    }

    private void ownWords() {
        h.topic("OWN WORDS, which no NAME is: fault 1");
        for (String word : OWN.split(" ")) {
            bad("ware ", word + " weighs 1 lifts 1;", 1);
            bad("ship ", word + " holds 2 trims 1;", 1);
            bad("berth ", word + " from 1 to 1;", 1);
            bad("loads ", word + " 0 w 1;", 1);
            bad(SHIP + "loads s 0 ", word + " 1;", 1);
            bad("lies ", word + " b;", 1);
            bad(SHIP + "lies s ", word + ";", 1);
            String near = (word + "q").substring(Math.max(0, word.length() + 1 - 6));
            h.due("a NAME may be near one: " + near, good("ware " + near + " weighs 1 lifts 1;", 1).has(0), 1);
        }
    }

    private void endsTooSoon() {
        h.topic("at the text's length, if it ends too soon");
        String all = SHIP + WARE + BERTH;
        String[] tails = {"loads s 1 w 20;", "lies s b;", "ware v weighs 99 lifts 99;", "ship t holds 4 trims 999;",
            "berth c from 7 to 7;", "gale 100;", "water min ( 1 , 2 ) * ( hour ) ;", "moon if ( all , 1 , 2 ) ;",
            "may not [ 1 < 2 ] or 3 > max ( 1 , 2 ) and all ;"};
        for (String tail : tails) {
            good(all + tail, 4);
            for (int end = 1; end < tail.length(); end++) {
                if (tail.charAt(end) == ' ' || tail.charAt(end) == ';') {
                    bad(all + tail.substring(0, end), "", 1);
                    bad(all + tail.substring(0, end) + " ", "", 1);
                    bad(all + tail.substring(0, end) + "\n\n", "", 1);
                }
            }
        }
        bad("", "war", 1);
        bad("ware w ", "weigh", 1);
        bad("gale 1; ", "g", 1);
    }

    private void seventhLetter() {
        h.topic("a 7th letter, a 5th digit at itself, whatever may stand there");
        String[] places = {"", "ware ", "ware w ", "ware w weighs ", "ware w weighs 1 ", "ware w weighs 1 lifts ",
            "ware w weighs 1 lifts 1 ", "ship s ", "ship s holds 2 ", "loads ", SHIP + "loads s ", SHIP + "loads s 1 ", "lies ",
            SHIP + "lies s ", "berth b ", "berth b from 1 ", "gale ", "gale 1 ", "water ", "water 1 ", "water ( ", "water (1 ",
            "water min ", "may ", "may 1 ", "may 1<", "may not ", "may all ", "may [all ", "gale 1;"};
        for (String place : places) {
            bad(place + "abcdef", "g", 1);
            bad(place + "abcdef", "ghijklmnop", 1);
            bad(place + "weight", "s", 1);
            bad(place + "1234", "5", 1);
            bad(place + "0000", "0000", 1);
        }
    }

    private void openAtOnce() {
        h.topic("5 the 8th ( [ not that is open at once (not until its FACT ends), at it");
        for (int depth = 1; depth <= 7; depth++) {
            good("water " + "(".repeat(depth) + "1" + ")".repeat(depth) + ";", 1);
            good("may " + "[".repeat(depth) + "all" + "]".repeat(depth) + ";", 1);
            good("may " + "not ".repeat(depth) + "all;", 1);
            good("may " + "not ".repeat(depth) + "all and " + "not ".repeat(7) + "all or " + "not ".repeat(7) + "1=1;", 1);
        }
        String[] opened = {"(((((((", "min(max(if(all,if(1=(min(1,(", "if(not not not not not [", "if([[[[[[", "max(1,((((((",
            "if(1=1,1,((((((", "((((((min(1,"};
        for (String ahead : opened) {
            boolean test = ahead.endsWith("[");
            bad("water " + ahead, test ? "[all]" : "(1)", 5);
            bad("water " + ahead + (test ? "1=" : "") + "min", "(1,2)", 5);
            bad("water " + ahead + (test ? "1=" : "") + "max", "(1,2)", 5);
            bad("water " + ahead + (test ? "1=" : "") + "if", "(all,1,2)", 5);
            bad("water " + ahead + (test ? "1=" : ""), "(", 5);
        }
        bad("may " + "not ".repeat(7), "not all;", 5);
        bad("may " + "not ".repeat(7), "[all];", 5);
        bad("may " + "not ".repeat(7), "(1)=1;", 5);
        bad("may " + "not ".repeat(7) + "1=", "(1);", 5);
        bad("may " + "not ".repeat(7) + "1=1+", "(1);", 5);
        good("may " + "not ".repeat(7) + "1=1 and (1)=1;", 1);
        bad("may [" + "not ".repeat(6) + "all and " + "not ".repeat(6), "not all]", 5);
        good("may [" + "not ".repeat(6) + "all and " + "not ".repeat(6) + "all];", 1);
        good("water " + "(1)+".repeat(50) + "1;", 1);
        good("may " + "[all]and ".repeat(50) + "all;", 1);
        good("may " + "not all and ".repeat(50) + "all;", 1);
        bad("water " + "(".repeat(7), ")", 1);
        bad("water " + "(".repeat(7) + "1", "(", 1);
        bad("water " + "(".repeat(7), "[", 1);
        bad("water " + "(".repeat(7), "not", 1);
        bad("may 1" + "+1".repeat(9), "not all", 1);
    }

    private void deepest() {
        h.topic("seven open at once, with all that waits ahead of each");
        String tested = "1";
        String chosen = "1";
        int testedValue = 1;
        int chosenValue = 1;
        for (int depth = 1; depth <= 7; depth++) {
            tested = "if(1=2 or 1=1 and " + (depth + 3) + "<1+1*" + tested + "," + depth + "," + 2 * depth + ")";
            testedValue = depth + 3 < 1 + testedValue ? depth : 2 * depth;
            chosen = "if(1=2 or 1=2 and 1<2,7," + depth + "+2*" + chosen + ")";
            chosenValue = depth + 2 * chosenValue;
            sum(tested, testedValue);
            sum("9+2*" + tested, 9 + 2 * testedValue);
            sum(chosen, chosenValue);
        }
    }

    private void firstAlongTheText() {
        h.topic("FAULTS, the first along the text");
        bad("gale ", "101;ware ware", 4);
        bad("ware ", "ware weighs 100 lifts 100;", 1);
        bad(WARE + "ware ", "w weighs 100 lifts 1;", 2);
        bad(SHIP + "loads ", "x 9 y 99;", 3);
        bad(SHIP + "loads s ", "9 y 99;", 4);
        bad(SHIP + "loads s 1 ", "y 99;", 3);
        bad("water 1;", "water ((((((((", 6);
        bad("water (((((((", "(;water 1;", 5);
        bad("ship s holds ", "9 trims 9999", 4);
        bad("berth b from 9 to ", "8 ?", 4);
        bad(six("ware ", " weighs 1 lifts 1;"), "ware a weighs 100", 6);
        // What is joined to a word or a number without a blank stands behind it.
        bad("gale ", "101x;", 4);
        bad("gale 100", "x;", 1);
        bad(WARE + "ware ", "w7", 2);
        bad(SHIP + "loads ", "x7", 3);
        bad(SHIP + BERTH + "lies s b;lies ", "s7", 3);
        bad("may " + "not ".repeat(7), "not1=1;", 5);
        bad("water " + "(".repeat(7), "(99999", 5);
        bad("water 1;", "water7", 6);
        bad("water 1;watera", "b 1;", 1);
    }

    private void faultsLeaveAll() {
        h.topic("with a FAULT all stays");
        Twins twins = new Twins(h, Twins::busy);
        twins.refusedText("x", 1, 0);
        twins.refusedText(WARE + "ware w", 2, WARE.length() + 5);
        twins.refusedText(SHIP + "loads t", 3, SHIP.length() + 6);
        twins.refusedText("gale 0;gale 101;", 4, 12);
        twins.refusedText("water 9;moon 9;rides ((((((((", 5, 28);
        twins.refusedText("may not all;may all;", 6, 12);
        twins.refusedText(WARE + SHIP + BERTH + "loads s 0 w 9;lies s b;water 3;moon 3;rides 3;may not all;gale 0;;", 1,
                (WARE + SHIP + BERTH + "loads s 0 w 9;lies s b;water 3;moon 3;rides 3;may not all;gale 0;").length());
        WrongTide x = Twins.busy();
        Harness.harbour(x, "may not all;gale 0;x");
        h.due("may stays", x.lade(0, 0, 0), 4);
        x.moor(0, WrongTide.NONE);
        h.due("gale stays", x.gales(1), 2);
    }
}
