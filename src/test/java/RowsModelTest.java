import java.nio.charset.StandardCharsets;
import java.util.Random;

/** Holds that are nearly full and ships that are nearly level, by told seeds: what is searched for (promises 17 to 22). */
public final class RowsModelTest {
    private static final int HARBOURS = 4000;

    private static Harness h;
    private static Random random;
    private static WrongTide tide;
    private static Model model;

    public static void main(String[] args) {
        h = new Harness();
        int harbours = args.length > 0 ? Integer.parseInt(args[0]) : HARBOURS;
        for (int run = 0; run < harbours && h.allRight(); run++) {
            random = new Random(run);
            tide = new WrongTide();
            model = new Model();
            int wares = 2 + random.nextInt(3);
            int ships = 2 + random.nextInt(4);
            String text = text(wares, ships);
            h.topic("run " + run + " " + text);
            put(text.getBytes(StandardCharsets.ISO_8859_1));
            h.due("harbour()", tide.harbour(), model.harbour());
            h.due("fault(0)", tide.fault(0), 0);
            swaps();
            for (int ship = 0; ship < ships; ship++) {
                stow(ship, wares);
                order(ship, wares);
            }
            berthed(ships);
        }
        h.finish("RowsModelTest");
    }

    private static int pick(int... some) {
        return some[random.nextInt(some.length)];
    }

    private static String text(int wares, int ships) {
        StringBuilder text = new StringBuilder();
        for (int w = 0; w < wares; w++) {
            text.append("ware w").append((char) ('a' + w)).append(" weighs ").append(random.nextInt(5)).append(" lifts ")
                    .append(random.nextInt(5)).append(";\n");
        }
        for (int s = 0; s < ships; s++) {
            String name = "s" + (char) ('a' + s);
            String berth = "b" + (char) ('a' + s);
            int holds = pick(2, 2, 3, 4);
            text.append("ship ").append(name).append(" holds ").append(holds).append(" trims ").append(random.nextInt(6)).append(";\n");
            int low = pick(0, 90, 95, 100);
            text.append("berth ").append(berth).append(" from ").append(low).append(" to ").append(low + pick(0, 3, 10, 200)).append(";\n");
            text.append("lies ").append(name).append(" ").append(berth).append(";\n");
            for (int k = random.nextInt(5); k > 0; k--) {
                text.append("loads ").append(name).append(" ").append(random.nextInt(holds)).append(" w")
                        .append((char) ('a' + random.nextInt(wares))).append(" ").append(pick(0, 1, 2, 3, 19, 20, 20)).append(";\n");
            }
        }
        text.append(pick(0, 1) == 0 ? "moon 100;" : "rides 100;");
        text.append(pick(0, 1, 2) == 0 ? "may tip%3<2 and count%5<4;" : "");
        return text.toString();
    }

    private static void put(byte[] row) {
        Harness.bytes(tide, row);
        for (int at = 0; at < row.length; at += 20) {
            int[] v = Harness.five(row, at);
            model.feed(v[0], v[1], v[2], v[3], v[4]);
        }
        model.end(row.length);
    }

    private static void swaps() {
        h.due("swaps(0, 1)", tide.swaps(0, 1), model.swaps(0, 1));
        h.due("swaps(1, 0)", tide.swaps(1, 0), model.swaps(1, 0));
    }

    private static void stow(int ship, int wares) {
        byte[] row = new byte[1 + random.nextInt(6)];
        for (int k = 0; k < row.length; k++) {
            row[k] = (byte) random.nextInt(wares);
        }
        put(row);
        h.due("stow(" + ship + ")", tide.stow(ship), model.stow(ship));
        for (int k = 0; k <= 6; k++) {
            h.due("stowed(" + k + ")", tide.stowed(k), model.stowed(k));
        }
    }

    private static void order(int ship, int wares) {
        byte[] row = new byte[2 + 2 * random.nextInt(6)];
        for (int k = 0; k < row.length; k += 2) {
            row[k] = (byte) random.nextInt(2);
            row[k + 1] = (byte) random.nextInt(wares);
        }
        put(row);
        h.due("order(" + ship + ")", tide.order(ship), model.order(ship));
        for (int k = 0; k <= 6; k++) {
            h.due("ordered(" + k + ")", tide.ordered(k), model.ordered(k));
        }
    }

    private static void berthed(int ships) {
        for (int ship = -1; ship < ships; ship++) {
            h.due("berthed(0, " + ship + ")", tide.berthed(0, ship), model.berthed(0, ship));
        }
    }
}
