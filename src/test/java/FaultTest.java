/** Texts with a FAULT, each with its kind and place (promises 4 and 5, and the language in the document's part I). */
public final class FaultTest {
    private static final String SHIP = "ship s holds 2 trims 5;";
    private static final String WARE = "ware w weighs 1 lifts 1;";
    private static final String BERTH = "berth b from 0 to 9;";

    private final Harness h = new Harness();

    public static void main(String[] args) {
        FaultTest test = new FaultTest();
        test.grammar();
        test.words();
        test.names();
        test.numbers();
        test.formulas();
        test.depths();
        test.tooMany();
        test.none();
        test.h.finish("FaultTest");
    }

    private void bad(String text, int kind, int place) {
        WrongTide x = new WrongTide();
        h.due("harbour() of " + text, Harness.harbour(x, text), WrongTide.NONE);
        h.due("fault(0) of " + text, x.fault(0), kind);
        h.due("fault(1) of " + text, x.fault(1), place);
    }

    /** The fault is at the first byte of the text's second part. */
    private void bad(String good, String rest, int kind) {
        bad(good + rest, kind, good.length());
    }

    private void good(String text, int statements) {
        WrongTide x = new WrongTide();
        h.due("harbour() of " + text, Harness.harbour(x, text), statements);
        h.due("fault(0) of " + text, x.fault(0), 0);
        h.due("fault(1) of " + text, x.fault(1), WrongTide.NONE);
    }

    private void grammar() {
        h.topic("fault 1");
        bad("", ";", 1);
        bad("", "gales 1;", 1);
        bad("", "ga", 1);
        bad("", "7;", 1);
        bad("", "Gale 1;", 1);
        bad("gale ", "x;", 1);
        bad("gale ", ";", 1);
        bad("gale 1", "", 1);
        bad("gale 1  ", "", 1);
        bad("gale", "", 1);
        bad("gale 1 ", "gale 2;", 1);
        bad("gale 1;", ";", 1);
        bad("gale 1;\n", "\t", 1);
        bad("gale ", "-1;", 1);
        bad("ware w ", "lifts 1 weighs 1;", 1);
        bad("ware w weighs 1", "", 1);
        bad("ware w weighs 1", ";", 1);
        bad("ware w weighs 1 lifts 1", ",", 1);
        bad("ware ", "7 weighs 1 lifts 1;", 1);
        bad(SHIP + WARE + "loads s ", "w 1 0;", 1);
        bad(SHIP + BERTH + "lies s b ", "b;", 1);
        bad("gale 1;", "\u00e9", 1);
        bad("gale 1;", "\u0000", 1);
        bad("gale 1;", "#", 1);
    }

    private void words() {
        h.topic("words and numbers");
        bad("ware abcdef", "g weighs 1 lifts 1;", 1);
        bad("ware abcdef", "ghijkl", 1);
        bad("gale 1000", "0;", 1);
        bad("gale 0000", "1;", 1);
        bad("ware w weighs 1000", "0", 1);
        bad("ware 1234", "5", 1);
        bad("gale abcdef", "g", 1);
        bad("abcdef", "gh", 1);
        bad("wareab", "c", 1);
        bad("water 1+1234", "5", 1);
        bad("lies abcdef", "g", 1);
        bad("gale", "7;", 1);
        bad("ware w weighs 1", "lifts 1;", 1);
        bad("ware w", "1 weighs 1 lifts 1;", 1);
        bad("water hour", "2;", 1);
        bad("may 1=1", "and 1=1;", 1);
        bad("may 1=1 ", "xor 1=1;", 1);
        good("may 1=1 and[1=1]or not[all]and 2>1;", 1);
        good("ware abcdef weighs 0099 lifts 0000;", 1);
        good("\n gale\n1\n;\n ", 1);
    }

    private void names() {
        h.topic("names");
        String own = "ware weighs lifts ship holds trims loads berth from to lies water moon rides may gale hour weight "
                + "lift tip count height if or and not all min max";
        for (String word : own.split(" ")) {
            bad("ware ", word + " weighs 1 lifts 1;", 1);
            bad("ship ", word + " holds 2 trims 1;", 1);
            bad("berth ", word + " from 2 to 9;", 1);
            bad(SHIP + "lies s ", word, 1);
            good("ware " + (word + "s").substring(1) + " weighs 1 lifts 1;", 1);
        }
        bad(SHIP + "ship ", "s holds 2 trims 5;", 2);
        bad(SHIP + "ware ", "s", 2);
        bad(WARE + "berth ", "w from", 2);
        bad(BERTH + "ship ", "b holds 2 trims 1;", 2);
        bad("loads ", "s 0 w 1;", 3);
        bad(WARE + "loads ", "w 0 w 1;", 3);
        bad(SHIP + "loads s 0 ", "s 1;", 3);
        bad(SHIP + WARE + "loads s 0 ", "v 1;", 3);
        bad("lies ", "s b;", 3);
        bad(BERTH + "lies ", "b b;", 3);
        bad(SHIP + "lies s ", "b;", 3);
        bad(SHIP + "lies s ", "s;", 3);
        bad(SHIP + BERTH + "lies s b;lies ", "s b;", 3);
        bad(SHIP + BERTH + "ship t holds 2 trims 0;lies s b;lies t ", "b;", 3);
        bad("loads ", "s abcdefg", 3);
        bad("lies ", "sx 12345", 3);
    }

    private void numbers() {
        h.topic("numbers");
        bad("ware w weighs ", "100 lifts 1;", 4);
        bad("ware w weighs 99 lifts ", "100;", 4);
        bad("ship s holds ", "1 trims 1;", 4);
        bad("ship s holds ", "5 trims 1;", 4);
        bad("ship s holds 4 trims ", "1000;", 4);
        bad("berth b from 10 to ", "9;", 4);
        bad("gale ", "101;", 4);
        bad(SHIP + WARE + "loads s ", "2 w 1;", 4);
        bad(SHIP + WARE + "loads s 1 w ", "21;", 4);
        good("ware w weighs 99 lifts 99;ware v weighs 0 lifts 0;ship s holds 4 trims 999;loads s 3 w 20;loads s 0 w 0;", 5);
        good("berth b from 0 to 0;berth c from 9999 to 9999;gale 0;gale 100;", 4);
        bad("gale ", "101abc", 4);
    }

    private void formulas() {
        h.topic("formulas");
        bad("water ", ";", 1);
        bad("water 1+", ";", 1);
        bad("water 1", "<2;", 1);
        bad("water (1", ";", 1);
        bad("water 1", ")", 1);
        bad("water min(1", ")", 1);
        bad("water min(1,2", ",3)", 1);
        bad("water max ", "1,2)", 1);
        bad("water if(1", ",2,3)", 1);
        bad("water if(1=1,2", ")", 1);
        bad("water if(1=1,2,3", ",4)", 1);
        bad("water ", "all;", 1);
        bad("water ", "not 1;", 1);
        bad("water ", "[1];", 1);
        bad("water ", "-1;", 1);
        bad("water 1", "=1;", 1);
        bad("may 1", ";", 1);
        bad("may 1", "", 1);
        bad("may 1=1", "=1;", 1);
        bad("may all", "=1;", 1);
        bad("may (1", "=1);", 1);
        bad("may [1", "];", 1);
        bad("may 1=1 and ", ";", 1);
        bad("may not ", ";", 1);
        bad("may ", "or;", 1);
        bad(WARE + "water ", "w;", 1);
        seen("water", "hour");
        seen("moon", "hour");
        seen("rides", "hour water moon weight lift tip");
        seen("may", "hour weight lift tip count height");
    }

    private void seen(String formula, String words) {
        String all = "hour water moon weight lift tip count height";
        String behind = formula.equals("may") ? ">1;" : ";";
        for (String word : all.split(" ")) {
            if ((" " + words + " ").contains(" " + word + " ")) {
                good(formula + " " + word + behind, 1);
                good(formula + " 2*if(" + word + "=1,0,1)" + behind, 1);
            } else {
                bad(formula + " ", word + behind, 1);
                bad(formula + " 2*if(", word + "=1,0,1)" + behind, 1);
            }
        }
    }

    private void depths() {
        h.topic("fault 5");
        good("water (((((((1)))))));", 1);
        bad("water (((((((", "(1))))))));", 5);
        bad("water ((((((min(", "(1),1)))))));", 5);
        bad("water (((((((min", "(1,1))))))));", 5);
        bad("water (((((((max", "(", 5);
        bad("water (((((((if", "(all,1,2)", 5);
        good("water ((((((if(all,1,2)))))));", 1);
        bad("may [[[[[[[", "[all]]]]]]]];", 5);
        bad("may [[[[[[[", "not all]]]]]]];", 5);
        bad("may [[[[[[[", "(1)=1]]]]]]];", 5);
        good("may [[[[[[[1=1]]]]]]];", 1);
        bad("may not not not not not not not ", "not all;", 5);
        good("may not not not not not not not all;", 1);
        good("may not not not not not not not all and not not not not not not not all or not[not[not[not all]]];", 1);
        bad("may not not not not not not not ", "[all];", 5);
        bad("may not not not not not not not ", "(1)=1;", 5);
        bad("may not not not not not not not 1=", "(1);", 5);
        good("may not not not not not not not 1=1 and((((((1))))))=(((((((1)))))));", 1);
        good("water (1)+(1)+(1)+(1)+(1)+(1)+(1)+(1)+(1)+min(1,(((((1))))));", 1);
        bad("water (((((((", "not", 1);
        bad("water (((((((1", "(", 1);
    }

    private void tooMany() {
        h.topic("fault 6");
        StringBuilder wares = new StringBuilder();
        StringBuilder ships = new StringBuilder();
        StringBuilder berths = new StringBuilder();
        for (char c = 'a'; c < 'g'; c++) {
            wares.append("ware ").append(c).append(" weighs 1 lifts 1;");
            ships.append("ship ").append(c).append(" holds 2 trims 1;");
            berths.append("berth ").append(c).append(" from 1 to 1;");
        }
        good(wares.toString(), 6);
        bad(wares.toString(), "ware", 6);
        bad(ships + " ", "ship a holds 2 trims 1;", 6);
        bad(berths + "\n", "berth x from 1 to 1;", 6);
        bad("water 1;", "water 2;", 6);
        bad("moon 1;", "moon 2;", 6);
        bad("rides 1;", "rides 2;", 6);
        bad("may all;", "may all;", 6);
        good("may all;rides 1;moon 1;water 1;", 4);
        String eighty = "gale 1;".repeat(80);
        good(eighty, 80);
        good(eighty + " \n", 80);
        bad(eighty, "gale 1;", 6);
        bad(eighty, "water 1;", 6);
        bad(eighty + " ", "gale", 6);
        bad(eighty, "ware abcdefgh", 6);
        bad(eighty, "abcdefgh", 6);
        bad(eighty, "?", 6);
    }

    private void none() {
        h.topic("no fault");
        good("", 0);
        good("   \n", 0);
        good("may(1)<(2);", 1);
        good("may if(hour<3,1,2)=1 or count*2-1>3 and not tip<0;", 1);
        good("ship sevens holds 2 trims 0;", 1);
        good(SHIP + BERTH + "lies s b;", 3);
    }
}
