import java.nio.charset.StandardCharsets;
import java.util.Random;

/** Runs of calls by a told seed, each answer compared with the model's; promises 1 to 36 all take part. */
public final class ModelTest {
    private static final int RUNS = 1500;
    private static final int MOST_CALLS = 512;

    private final Harness harness = new Harness();
    private Random random;
    private WrongTide tide;
    private Model model;
    private int calls;

    public static void main(String[] args) {
        int from = args.length > 0 ? Integer.parseInt(args[0]) : 0;
        int runs = args.length > 1 ? Integer.parseInt(args[1]) : RUNS;
        ModelTest test = new ModelTest();
        for (int run = from; run < from + runs; run++) {
            test.run(run);
        }
        test.harness.finish("ModelTest");
    }

    private void run(int run) {
        harness.topic("run " + run);
        random = new Random(run);
        tide = new WrongTide();
        model = new Model();
        calls = 0;
        if (random.nextInt(20) > 0) {
            read(0);
        }
        while (calls < MOST_CALLS && harness.allRight()) {
            call();
        }
    }

    private void same(String call, int got, int want) {
        calls++;
        harness.due(calls + " " + call, got, want);
    }

    private void same(String call, boolean got, boolean want) {
        same(call, got ? 1 : 0, want ? 1 : 0);
    }

    private void bytes(byte[] row) {
        for (int at = 0; at < row.length; at += 20) {
            int[] v = Harness.five(row, at);
            same("feed", tide.feed(v[0], v[1], v[2], v[3], v[4]), model.feed(v[0], v[1], v[2], v[3], v[4]));
        }
        same("end", tide.end(row.length), model.end(row.length));
    }

    private void read(int changes) {
        Texts texts = new Texts(random);
        String text = texts.harbour();
        for (int k = 0; k < changes; k++) {
            text = texts.spoiled(text);
        }
        bytes(text.getBytes(StandardCharsets.ISO_8859_1));
        same("harbour of " + text, tide.harbour(), model.harbour());
        same("fault(0) of " + text, tide.fault(0), model.fault(0));
        same("fault(1) of " + text, tide.fault(1), model.fault(1));
    }

    private int few(int bound) {
        return random.nextInt(12) == 0 ? random.nextInt(bound + 4) - 2 : random.nextInt(bound);
    }

    private int ware() {
        return few(Math.max(model.has(0), 1));
    }

    private int ship() {
        return few(Math.max(model.has(1), 1));
    }

    private int berth() {
        return few(Math.max(model.has(2), 1));
    }

    private int hold() {
        return random.nextInt(10) == 0 ? few(4) : few(2);
    }

    private void call() {
        switch (random.nextInt(5)) {
            case 0, 1 -> ask();
            case 2 -> askAhead();
            case 3 -> act();
            default -> {
                if (random.nextInt(3) == 0) {
                    tapes();
                } else {
                    act();
                }
            }
        }
    }

    private void ask() {
        int s = ship();
        int w = ware();
        int b = berth();
        int h = hold();
        int k = few(11);
        switch (random.nextInt(14)) {
            case 0, 1 -> same("has", tide.has(k), model.has(k));
            case 2 -> letter(w);
            case 3 -> same("ware", tide.ware(w, k % 4), model.ware(w, k % 4));
            case 4, 5 -> same("ship " + s + " " + k, tide.ship(s, k % 9), model.ship(s, k % 9));
            case 6 -> same("tips", tide.tips(s), model.tips(s));
            case 7 -> same("crates", tide.crates(s, h, w), model.crates(s, h, w));
            case 8 -> same("berth", tide.berth(b, k % 5), model.berth(b, k % 5));
            case 9 -> hour();
            case 10 -> same("status", tide.status(k % 7), model.status(k % 7));
            case 11 -> same("stowed", tide.stowed(k % 7), model.stowed(k % 7));
            case 12 -> same("ordered", tide.ordered(k % 7), model.ordered(k % 7));
            default -> {
                int n = random.nextInt(70) - 2;
                int what = few(5);
                same("kept " + n + " " + what, tide.kept(n, what), model.kept(n, what));
                same("octet " + 2 * n, tide.octet(2 * n), model.octet(2 * n));
            }
        }
    }

    private void letter(int which) {
        int kind = few(3);
        int k = few(6);
        same("letter", tide.letter(kind, which, k), model.letter(kind, which, k));
    }

    private void hour() {
        int hour = random.nextBoolean() ? random.nextInt(100) : random.nextInt(10100) - 50;
        int what = few(2);
        same("tide " + hour + " " + what, tide.tide(hour, what), model.tide(hour, what));
    }

    private void askAhead() {
        int s = ship();
        int t = ship();
        int n = random.nextInt(3) == 0 ? random.nextInt(206) - 3 : random.nextInt(10);
        switch (random.nextInt(5)) {
            case 0 -> same("rides", tide.rides(s, n), model.rides(s, n));
            case 1 -> same("adrift", tide.adrift(n % 3), model.adrift(n % 3));
            case 2 -> same("alike " + s + " " + t, tide.alike(s, t, n), model.alike(s, t, n));
            case 3 -> {
                int which = random.nextInt(3) == 0 ? -1 : s;
                same("berthed " + n + " " + which, tide.berthed(n, which), model.berthed(n, which));
            }
            default -> same("swaps " + s + " " + t, tide.swaps(s, t), model.swaps(s, t));
        }
    }

    private void act() {
        int s = ship();
        int w = ware();
        int h = hold();
        int t = hold();
        int b = random.nextInt(5) == 0 ? -1 : berth();
        int n = random.nextInt(3) == 0 ? few(200) + 1 : random.nextInt(3);
        switch (random.nextInt(16)) {
            case 0, 1, 2, 3 -> same("lade", tide.lade(s, h, w), model.lade(s, h, w));
            case 4, 5, 6 -> same("discharge", tide.discharge(s, h, w), model.discharge(s, h, w));
            case 7 -> same("shift", tide.shift(s, h, w, t), model.shift(s, h, w, t));
            case 8, 9, 10, 11 -> same("moor " + s + " " + b, tide.moor(s, b), model.moor(s, b));
            case 12 -> same("hours", tide.hours(n), model.hours(n));
            case 13 -> same("gales", tide.gales(n), model.gales(n));
            case 14 -> same("undo", tide.undo(), model.undo());
            default -> {
                int seed = random.nextBoolean() ? random.nextInt() : random.nextInt(1000);
                if (random.nextInt(4) == 0) {
                    same("seed", tide.seed(seed), model.seed(seed));
                }
            }
        }
    }

    private void tapes() {
        int s = ship();
        switch (random.nextInt(9)) {
            case 0, 1 -> {
                row(1, 7, true);
                same("stow " + s, tide.stow(s), model.stow(s));
                for (int k = 0; k < 6; k++) {
                    same("stowed", tide.stowed(k), model.stowed(k));
                }
            }
            case 2, 3 -> {
                row(2, 7, false);
                same("order " + s, tide.order(s), model.order(s));
                for (int k = 0; k < 6; k++) {
                    same("ordered", tide.ordered(k), model.ordered(k));
                }
            }
            case 4, 5 -> rode(s);
            case 6, 7 -> imageBack();
            default -> {
                if (random.nextInt(8) == 0) {
                    read(random.nextInt(3));
                }
            }
        }
    }

    private void row(int each, int most, boolean wares) {
        byte[] row = new byte[each * random.nextInt(most) + (random.nextInt(12) == 0 ? 1 : 0) + (random.nextBoolean() ? each : 0)];
        for (int k = 0; k < row.length; k++) {
            row[k] = (byte) (wares || k % 2 == 1 ? ware() : hold());
        }
        bytes(row);
    }

    private void rode(int ship) {
        int rows = random.nextInt(4) == 0 ? random.nextInt(12) : 1;
        byte[] row = new byte[4 * rows + (random.nextInt(12) == 0 ? 1 : 0)];
        for (int k = 0; 4 * k + 3 < row.length; k++) {
            int hour = random.nextInt(10) == 0 ? random.nextInt(11000) : random.nextInt(30);
            int ware = Math.max(model.has(0), 1);
            int many = 1 + random.nextInt(20);
            int guess = model.tide(hour, 0) + model.ware(random.nextInt(ware), 1) * many * model.tide(hour, 1) / 100
                    - model.ware(random.nextInt(ware), 0) * many;
            int height = random.nextInt(12) == 0 ? random.nextInt(11000) : Math.max(guess, 0);
            row[4 * k] = (byte) (hour >> 8);
            row[4 * k + 1] = (byte) hour;
            row[4 * k + 2] = (byte) (height >> 8);
            row[4 * k + 3] = (byte) height;
        }
        bytes(row);
        same("rode", tide.rode(ship), model.rode(ship));
    }

    private void imageBack() {
        same("image", tide.image(), model.image());
        int length = model.image();
        byte[] row = new byte[length];
        for (int k = 0; k < length; k++) {
            same("octet", tide.octet(k), model.octet(k));
            row[k] = (byte) model.octet(k);
        }
        if (random.nextBoolean()) {
            return;
        }
        for (int k = random.nextInt(3); k > 0; k--) {
            int at = random.nextInt(length);
            row[at] = (byte) (random.nextInt(3) == 0 ? random.nextInt(256) : random.nextInt(22));
        }
        if (random.nextInt(4) == 0) {
            int late = 9999 + random.nextInt(3) - random.nextInt(300);
            row[0] = (byte) (late >> 8);
            row[1] = (byte) late;
        }
        if (random.nextInt(5) > 0) {
            int c = 139;
            for (int k = 0; k < length - 1; k++) {
                c = (5 * c + (row[k] & 255)) % 251;
            }
            row[length - 1] = (byte) c;
        }
        bytes(row);
        same("on", tide.on(), model.on());
    }
}
