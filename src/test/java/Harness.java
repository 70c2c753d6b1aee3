import java.nio.charset.StandardCharsets;

/** What the tests share: they count wrong answers, print each, and end with exit code 1 if there was one. */
final class Harness {
    private int asked = 0;
    private int wrong = 0;
    private String topic = "";

    void topic(String name) {
        topic = name;
    }

    void due(String call, long got, long want) {
        asked++;
        if (got != want) {
            wrong++;
            if (wrong <= 50) {
                System.out.println(topic + ": " + call + " answered " + got + ", due is " + want);
            }
        }
    }

    void due(String call, boolean got, boolean want) {
        due(call, got ? 1 : 0, want ? 1 : 0);
    }

    boolean allRight() {
        return wrong == 0;
    }

    void finish(String name) {
        System.out.println(name + ": " + asked + " answers, " + wrong + " wrong");
        if (wrong != 0 || asked == 0) {
            System.exit(1);
        }
    }

    /** Puts bytes on a tape that is empty. */
    static void bytes(WrongTide tide, byte[] row) {
        for (int at = 0; at < row.length; at += 20) {
            int[] five = five(row, at);
            tide.feed(five[0], five[1], five[2], five[3], five[4]);
        }
        tide.end(row.length);
    }

    static void row(WrongTide tide, int... row) {
        byte[] bytes = new byte[row.length];
        for (int k = 0; k < row.length; k++) {
            bytes[k] = (byte) row[k];
        }
        bytes(tide, bytes);
    }

    static void text(WrongTide tide, String text) {
        bytes(tide, text.getBytes(StandardCharsets.ISO_8859_1));
    }

    static int harbour(WrongTide tide, String text) {
        text(tide, text);
        return tide.harbour();
    }

    static WrongTide told(String text) {
        WrongTide tide = new WrongTide();
        if (harbour(tide, text) < 0) {
            throw new IllegalStateException("fault " + tide.fault(0) + " at " + tide.fault(1) + " in " + text);
        }
        return tide;
    }

    static int[] five(byte[] row, int at) {
        int[] five = new int[5];
        for (int k = 0; k < 20; k++) {
            int octet = at + k < row.length ? row[at + k] & 255 : ' ';
            five[k / 4] = five[k / 4] << 8 | octet;
        }
        return five;
    }

    /** Sets the last byte of an image's row. */
    static int[] sealed(int[] row) {
        int c = 139;
        for (int k = 0; k < row.length - 1; k++) {
            c = (5 * c + row[k]) % 251;
        }
        row[row.length - 1] = c;
        return row;
    }

    /** Puts on an image of what is there now, but in another hour. */
    static boolean late(WrongTide tide, int hour) {
        int[] row = new int[tide.image()];
        for (int k = 2; k < row.length; k++) {
            row[k] = tide.octet(k);
        }
        row[0] = hour / 256;
        row[1] = hour % 256;
        row(tide, sealed(row));
        return tide.on();
    }

    /** The seed behind a DRAW. */
    static long next(long seed) {
        return (1103515245L * seed + 12345) % (1L << 31);
    }
}
