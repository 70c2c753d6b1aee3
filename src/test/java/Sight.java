import java.util.LinkedHashMap;
import java.util.Map;

/** All that can be seen of an object, call by call; the tape and what can be undone are looked at last, for that uses them up. */
final class Sight {
    private final WrongTide x;
    private final Map<String, Integer> seen = new LinkedHashMap<>();

    private Sight(WrongTide x) {
        this.x = x;
    }

    static Map<String, Integer> of(WrongTide x) {
        Sight sight = new Sight(x);
        sight.counts();
        sight.names();
        sight.wares();
        sight.ships();
        sight.berths();
        sight.rows();
        sight.kept();
        sight.tape();
        sight.past();
        return sight.seen;
    }

    private void put(String call, int answer) {
        seen.put(call, answer);
    }

    private void counts() {
        for (int what = 0; what <= 10; what++) {
            put("has(" + what + ")", x.has(what));
        }
        for (int what = 0; what <= 5; what++) {
            put("status(" + what + ")", x.status(what));
        }
        put("fault(0)", x.fault(0));
        put("fault(1)", x.fault(1));
        put("tide(9999, 0)", x.tide(9999, 0));
        put("tide(9999, 1)", x.tide(9999, 1));
        put("adrift(0)", x.adrift(0));
    }

    private void names() {
        for (int kind = 0; kind < 3; kind++) {
            for (int which = 0; which < x.has(kind); which++) {
                int name = 0;
                for (int k = 0; k < 6; k++) {
                    name = name * 27 + x.letter(kind, which, k);
                }
                put("the name of " + which + " of kind " + kind, name);
            }
        }
    }

    private void wares() {
        for (int ware = 0; ware < x.has(0); ware++) {
            for (int what = 0; what < 3; what++) {
                put("ware(" + ware + ", " + what + ")", x.ware(ware, what));
            }
        }
    }

    private void ships() {
        for (int ship = 0; ship < x.has(1); ship++) {
            for (int what = 0; what < 8; what++) {
                put("ship(" + ship + ", " + what + ")", x.ship(ship, what));
            }
            put("tips(" + ship + ")", x.tips(ship));
            put("rides(" + ship + ", 1)", x.rides(ship, 1));
            for (int hold = 0; hold < x.ship(ship, 0); hold++) {
                for (int ware = 0; ware < x.has(0); ware++) {
                    put("crates(" + ship + ", " + hold + ", " + ware + ")", x.crates(ship, hold, ware));
                }
            }
        }
    }

    private void berths() {
        for (int berth = 0; berth < x.has(2); berth++) {
            for (int what = 0; what < 4; what++) {
                put("berth(" + berth + ", " + what + ")", x.berth(berth, what));
            }
        }
    }

    private void rows() {
        for (int k = 0; k <= 6; k++) {
            put("stowed(" + k + ")", x.stowed(k));
            put("ordered(" + k + ")", x.ordered(k));
        }
        int length = 0;
        while (x.octet(length) != WrongTide.NONE) {
            put("octet(" + length + ")", x.octet(length));
            length++;
        }
        put("bytes of the image", length);
    }

    private void kept() {
        for (int k = 0; k < x.has(8); k++) {
            for (int what = 0; what < 5; what++) {
                put("kept(" + k + ", " + what + ")", x.kept(k, what));
            }
        }
    }

    private void tape() {
        put("feed: how many there are", x.feed(0, 0, 0, 0, 0));
        x.end(0);
    }

    private void past() {
        for (int k = x.has(9); k > 0; k--) {
            x.undo();
            put("with " + k + " ACTS undone, HOUR", x.has(3));
            put("with " + k + " ACTS undone, ships that lie", x.has(6));
            put("with " + k + " ACTS undone, crates", x.has(7));
            put("with " + k + " ACTS undone, KEPT", x.has(8));
        }
    }
}
