import java.util.Random;

/** Any arguments in any state: no call throws, and what is asked changes nothing. */
public final class WildTest {
    private static final int[] WILD = {Integer.MIN_VALUE, Integer.MIN_VALUE + 1, -1000000000, -201, -2, -1, 0, 1, 2, 3, 4, 5,
        6, 7, 19, 20, 21, 59, 60, 153, 200, 201, 9999, 10000, 1600, Integer.MAX_VALUE - 1, Integer.MAX_VALUE};

    private static Random random;

    public static void main(String[] args) {
        Harness h = new Harness();
        for (int run = 0; run < 400; run++) {
            h.topic("run " + run);
            random = new Random(run);
            WrongTide x = new WrongTide();
            if (run % 4 > 0) {
                Harness.harbour(x, new Texts(random).harbour());
            }
            for (int k = 0; k < 300; k++) {
                change(x);
                long before = sight(x);
                ask(x);
                h.due("what is asked changes nothing", sight(x), before);
            }
        }
        h.finish("WildTest");
    }

    private static int wild() {
        return random.nextBoolean() ? random.nextInt(7) - 1 : WILD[random.nextInt(WILD.length)];
    }

    private static void change(WrongTide x) {
        switch (random.nextInt(14)) {
            case 0 -> x.feed(wild(), wild(), wild(), wild(), wild());
            case 1 -> x.end(wild());
            case 2 -> x.stow(wild());
            case 3 -> x.order(wild());
            case 4 -> x.rode(wild());
            case 5 -> x.lade(wild(), wild(), wild());
            case 6 -> x.discharge(wild(), wild(), wild());
            case 7 -> x.shift(wild(), wild(), wild(), wild());
            case 8 -> x.moor(wild(), wild());
            case 9 -> x.hours(wild());
            case 10 -> x.gales(wild());
            case 11 -> x.undo();
            case 12 -> x.seed(wild());
            default -> {
                if (random.nextInt(20) == 0) {
                    x.harbour();
                } else {
                    x.on();
                }
            }
        }
    }

    private static void ask(WrongTide x) {
        x.fault(wild());
        x.has(wild());
        x.letter(wild(), wild(), wild());
        x.ware(wild(), wild());
        x.ship(wild(), wild());
        x.tips(wild());
        x.crates(wild(), wild(), wild());
        x.berth(wild(), wild());
        x.tide(wild(), wild());
        x.rides(wild(), wild());
        x.adrift(wild());
        x.alike(wild(), wild(), wild());
        x.berthed(wild(), wild());
        x.stowed(wild());
        x.ordered(wild());
        x.swaps(wild(), wild());
        x.kept(wild(), wild());
        x.octet(wild());
        x.status(wild());
    }

    /** A number that any change of what can be seen would very likely change too. */
    private static long sight(WrongTide x) {
        long sum = x.image();
        for (int k = 0; k < 153; k++) {
            sum = sum * 31 + x.octet(k);
        }
        for (int k = 0; k < 11; k++) {
            sum = sum * 31 + x.has(k);
            sum = sum * 31 + x.status(k);
            sum = sum * 31 + x.stowed(k);
            sum = sum * 31 + x.ordered(k);
        }
        for (int k = 0; k < 60; k++) {
            for (int what = 0; what < 5; what++) {
                sum = sum * 31 + x.kept(k, what);
            }
        }
        return sum * 31 + x.fault(0) * 3 + x.fault(1);
    }
}
