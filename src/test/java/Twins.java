import java.util.LinkedHashMap;
import java.util.Map;
import java.util.Set;
import java.util.TreeSet;
import java.util.function.Consumer;
import java.util.function.Supplier;
import java.util.function.ToIntFunction;

/**
 * Two objects of one making, of which one is asked: what is refused counts one in status() and changes nothing else,
 * so both look alike behind it.
 */
final class Twins {
    private final Harness h;
    private final Supplier<WrongTide> maker;

    Twins(Harness h, Supplier<WrongTide> maker) {
        this.h = h;
        this.maker = maker;
    }

    /** The call is answered so and counted in status(kind); all else stays. */
    void refused(String call, int kind, int answer, ToIntFunction<WrongTide> asked) {
        compare(call, kind, answer, x -> { }, asked, Set.of());
    }

    void refused(String call, int kind, ToIntFunction<WrongTide> asked) {
        refused(call, kind, WrongTide.NONE, asked);
    }

    /** As above, with a row on the tape, which goes. */
    void refusedRow(String call, int kind, int answer, int[] row, ToIntFunction<WrongTide> asked) {
        compare(call, kind, answer, x -> Harness.row(x, row), asked, Set.of());
    }

    /** A text with a fault: it is told by fault(), and all else stays. */
    void refusedText(String text, int fault, int place) {
        compare("harbour() of " + text, 1, WrongTide.NONE, x -> Harness.text(x, text), x -> {
            int answer = x.harbour();
            h.due("fault(0) of " + text, x.fault(0), fault);
            h.due("fault(1) of " + text, x.fault(1), place);
            return answer;
        }, Set.of("fault(0)", "fault(1)"));
    }

    /** The call is answered so, and nothing changes, status() neither. */
    void asked(String call, int answer, ToIntFunction<WrongTide> asked) {
        compare(call, WrongTide.NONE, answer, x -> { }, asked, Set.of());
    }

    private void compare(String call, int kind, int answer, Consumer<WrongTide> ahead, ToIntFunction<WrongTide> asked, Set<String> free) {
        WrongTide one = maker.get();
        ahead.accept(one);
        h.due(call, asked.applyAsInt(one), answer);
        Map<String, Integer> want = new LinkedHashMap<>(Sight.of(maker.get()));
        want.computeIfPresent("status(" + kind + ")", (key, value) -> value + 1);
        Map<String, Integer> got = new LinkedHashMap<>(Sight.of(one));
        got.keySet().removeAll(free);
        want.keySet().removeAll(free);
        h.due(call + ": as many things are seen", got.size(), want.size());
        for (String key : new TreeSet<>(want.keySet())) {
            h.due("behind " + call + ", " + key, got.getOrDefault(key, Integer.MIN_VALUE), want.get(key));
        }
    }
}
