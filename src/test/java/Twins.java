import java.util.LinkedHashMap;
import java.util.Map;
import java.util.Set;
import java.util.TreeSet;
import java.util.function.Consumer;
import java.util.function.Supplier;
import java.util.function.ToIntFunction;

/**
 * Two objects of one making, of which one is asked: what is refused counts one in status() and changes nothing else,
 * so both look alike behind it.
 */
final class Twins {
    private final Harness h;
    private final Supplier<WrongTide> maker;

    Twins(Harness h, Supplier<WrongTide> maker) {
        this.h = h;
        this.maker = maker;
    }

    /** A harbour with something of all there is: rows stowed and ordered, an image, what is kept, acts, another seed. */
    static WrongTide busy() {
        WrongTide x = Harness.told("ware tea weighs 2 lifts 3;ware tin weighs 5 lifts 0;ship brig holds 4 trims 199;ship hoy holds 2 trims 9;"
                + "berth quay from 0 to 9999;berth pole from 500 to 600;loads brig 0 tea 2;loads brig 3 tin 20;loads hoy 0 tin 1;"
                + "lies brig quay;water 50+hour;moon 7;rides water+weight;may count<25;gale 100;");
        Harness.row(x, 0, 1, 1);
        x.stow(0);
        Harness.row(x, 1, 1, 0, 0);
        x.order(0);
        x.image();
        x.lade(0, 0, 0);
        x.hours(3);
        x.seed(99);
        return x;
    }

    /** The call is answered so and counted in status(kind); all else stays. */
    void refused(String call, int kind, int answer, ToIntFunction<WrongTide> asked) {
        compare(call, kind, answer, x -> { }, asked, Set.of());
    }

    void refused(String call, int kind, ToIntFunction<WrongTide> asked) {
        refused(call, kind, WrongTide.NONE, asked);
    }

    /** As above, with a row on the tape, which goes. */
    void refusedRow(String call, int kind, int answer, int[] row, ToIntFunction<WrongTide> asked) {
        compare(call, kind, answer, x -> Harness.row(x, row), asked, Set.of());
    }

    /** A text with a fault: it is told by fault(), and all else stays. */
    void refusedText(String text, int fault, int place) {
        compare("harbour() of " + text, 1, WrongTide.NONE, x -> Harness.text(x, text), x -> {
            int answer = x.harbour();
            h.due("fault(0) of " + text, x.fault(0), fault);
            h.due("fault(1) of " + text, x.fault(1), place);
            return answer;
        }, Set.of("fault(0)", "fault(1)"));
    }

    /** The call is answered so, and nothing changes, status() neither. */
    void asked(String call, int answer, ToIntFunction<WrongTide> asked) {
        compare(call, WrongTide.NONE, answer, x -> { }, asked, Set.of());
    }

    private void compare(String call, int kind, int answer, Consumer<WrongTide> ahead, ToIntFunction<WrongTide> asked, Set<String> free) {
        WrongTide one = maker.get();
        ahead.accept(one);
        h.due(call, asked.applyAsInt(one), answer);
        Map<String, Integer> want = new LinkedHashMap<>(Sight.of(maker.get()));
        want.computeIfPresent("status(" + kind + ")", (key, value) -> value + 1);
        Map<String, Integer> got = new LinkedHashMap<>(Sight.of(one));
        got.keySet().removeAll(free);
        want.keySet().removeAll(free);
        h.due(call + ": as many things are seen", got.size(), want.size());
        for (String key : new TreeSet<>(want.keySet())) {
            h.due("behind " + call + ", " + key, got.getOrDefault(key, Integer.MIN_VALUE), want.get(key));
        }
    }
}
