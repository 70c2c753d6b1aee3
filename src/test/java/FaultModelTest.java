import java.nio.charset.StandardCharsets;
import java.util.Random;

/** Spoiled texts by a told seed: harbour() and fault() compared with the model's (promises 4 and 5). */
public final class FaultModelTest {
    private static final int TEXTS = 30000;

    public static void main(String[] args) {
        Harness harness = new Harness();
        int texts = args.length > 0 ? Integer.parseInt(args[0]) : TEXTS;
        int[] seen = new int[7];
        for (int run = 0; run < texts && harness.allRight(); run++) {
            Random random = new Random(run);
            Texts maker = new Texts(random);
            String text = maker.harbour();
            for (int k = random.nextInt(3); k >= 0; k--) {
                text = maker.spoiled(text);
            }
            if (text.length() <= 1600) {
                harness.topic("text " + run + ": " + text);
                seen[compare(harness, text.getBytes(StandardCharsets.ISO_8859_1))]++;
            }
        }
        for (int kind = 0; kind < seen.length; kind++) {
            System.out.println("fault " + kind + ": " + seen[kind] + " texts");
            harness.topic("all texts");
            harness.due("some have fault " + kind, seen[kind] > 0, true);
        }
        harness.finish("FaultModelTest");
    }

    private static int compare(Harness harness, byte[] text) {
        WrongTide tide = new WrongTide();
        Model model = new Model();
        Harness.bytes(tide, text);
        for (int at = 0; at < text.length; at += 20) {
            int[] v = Harness.five(text, at);
            model.feed(v[0], v[1], v[2], v[3], v[4]);
        }
        model.end(text.length);
        harness.due("harbour()", tide.harbour(), model.harbour());
        harness.due("fault(0)", tide.fault(0), model.fault(0));
        harness.due("fault(1)", tide.fault(1), model.fault(1));
        for (int what = 0; what <= 10; what++) {
            harness.due("has(" + what + ")", tide.has(what), model.has(what));
        }
        return model.fault(0);
    }
}
