import java.util.ArrayList;
import java.util.Arrays;
import java.util.HashMap;
import java.util.LinkedHashMap;
import java.util.List;
import java.util.Map;
import java.util.Set;
import java.util.TreeMap;

/**
 * The document told a second time, with other means: trees for the formulas, maps for the harbour, copies for
 * undo, and every choice of hold, order, berth and swap tried out. It is slow and only serves to compare.
 */
final class Model {
    static final int NONE = -1;
    static final int NOTHING = -1000000000;
    static final Set<String> OWN = Set.of("ware", "weighs", "lifts", "ship", "holds", "trims", "loads", "berth",
            "from", "to", "lies", "water", "moon", "rides", "may", "gale", "hour", "weight", "lift", "tip", "count",
            "height", "if", "or", "and", "not", "all", "min", "max");

    static final class Fault extends RuntimeException {
        private static final long serialVersionUID = 1L;
        final int kind;
        final int place;

        Fault(int kind, int place) {
            this.kind = kind;
            this.place = place;
        }
    }

    interface Formula {
        long of(Map<String, Integer> sight);
    }

    record Ware(String name, int weighs, int lifts) { }

    record Ship(String name, int holds, int trims) { }

    record Berth(String name, int from, int to) { }

    record Kept(int hour, int ship, int hold, int ware, int what) { }

    static final class State {
        int hour = 0;
        List<int[][]> loads = new ArrayList<>();
        List<Integer> lies = new ArrayList<>();
        List<Kept> kept = new ArrayList<>();

        State copy() {
            State copy = new State();
            copy.hour = hour;
            for (int[][] load : loads) {
                copy.loads.add(copyLoad(load));
            }
            copy.lies.addAll(lies);
            copy.kept.addAll(kept);
            return copy;
        }
    }

    static final class Told {
        List<Ware> wares = new ArrayList<>();
        List<Ship> ships = new ArrayList<>();
        List<Berth> berths = new ArrayList<>();
        Map<String, Formula> formulas = new HashMap<>();
        Map<List<Integer>, Integer> loads = new LinkedHashMap<>();
        Map<Integer, Integer> lies = new TreeMap<>();
        int gale = 0;
        int statements = 0;
    }

    private final StringBuilder tape = new StringBuilder();
    private Told told = new Told();
    private State state = new State();
    private final List<State> past = new ArrayList<>();
    private long luck = 1;
    private int faultKind = 0;
    private int faultPlace = NONE;
    private final int[] refused = new int[6];
    private int[] picture = new int[0];
    private List<Integer> stowed = List.of();
    private List<Integer> ordered = List.of();

    static int[][] copyLoad(int[][] load) {
        int[][] copy = new int[load.length][];
        for (int k = 0; k < load.length; k++) {
            copy[k] = load[k].clone();
        }
        return copy;
    }

    // ---- reading

    static final class Parser {
        final String text;
        int at = 0;
        String scope = "";
        final Told told = new Told();

        Parser(String text) {
            this.text = text;
        }

        /** The token at the next place that is no blank; "" at the end. */
        String token() {
            while (at < text.length() && " \n".indexOf(text.charAt(at)) >= 0) {
                at++;
            }
            if (at == text.length()) {
                return "";
            }
            boolean word = letter(at);
            boolean number = digit(at);
            if (!word && !number) {
                return text.substring(at, at + 1);
            }
            if (at > 0 && (word ? digit(at - 1) : letter(at - 1))) {
                throw new Fault(1, at);
            }
            int end = at;
            while (end < text.length() && (word ? letter(end) : digit(end))) {
                end++;
            }
            int most = word ? 6 : 4;
            if (end - at > most) {
                throw new Fault(1, at + most);
            }
            return text.substring(at, end);
        }

        boolean letter(int k) {
            return text.charAt(k) >= 'a' && text.charAt(k) <= 'z';
        }

        boolean digit(int k) {
            return text.charAt(k) >= '0' && text.charAt(k) <= '9';
        }

        boolean is(String wanted) {
            if (token().equals(wanted)) {
                at += wanted.length();
                return true;
            }
            return false;
        }

        void must(String wanted) {
            if (!is(wanted)) {
                throw new Fault(1, at);
            }
        }

        int number(int least, int most) {
            String token = token();
            if (token.isEmpty() || !Character.isDigit(token.charAt(0))) {
                throw new Fault(1, at);
            }
            int value = Integer.parseInt(token);
            if (value < least || value > most) {
                throw new Fault(4, at);
            }
            at += token.length();
            return value;
        }

        String name() {
            String token = token();
            if (token.isEmpty() || !letter(at) || OWN.contains(token)) {
                throw new Fault(1, at);
            }
            return token;
        }

        String newName() {
            String name = name();
            boolean there = told.wares.stream().anyMatch(w -> w.name.equals(name))
                    || told.ships.stream().anyMatch(s -> s.name.equals(name))
                    || told.berths.stream().anyMatch(b -> b.name.equals(name));
            if (there) {
                throw new Fault(2, at);
            }
            at += name.length();
            return name;
        }

        int known(List<String> names, Set<Integer> barred) {
            String name = name();
            int which = names.indexOf(name);
            if (which < 0 || barred.contains(which)) {
                throw new Fault(3, at);
            }
            at += name.length();
            return which;
        }

        List<String> shipNames() {
            return told.ships.stream().map(Ship::name).toList();
        }

        Told read() {
            while (true) {
                String token;
                try {
                    token = token();
                } catch (Fault fault) {
                    if (told.statements == 80) {
                        throw new Fault(6, at);
                    }
                    throw fault;
                }
                if (token.isEmpty()) {
                    return told;
                }
                if (told.statements == 80) {
                    throw new Fault(6, at);
                }
                statement(token);
                must(";");
                told.statements++;
            }
        }

        void statement(String word) {
            int begin = at;
            switch (word) {
                case "ware" -> {
                    tooMany(told.wares.size() == 6);
                    must("ware");
                    String name = newName();
                    must("weighs");
                    int weighs = number(0, 99);
                    must("lifts");
                    told.wares.add(new Ware(name, weighs, number(0, 99)));
                }
                case "ship" -> {
                    tooMany(told.ships.size() == 6);
                    must("ship");
                    String name = newName();
                    must("holds");
                    int holds = number(2, 4);
                    must("trims");
                    told.ships.add(new Ship(name, holds, number(0, 999)));
                }
                case "berth" -> {
                    tooMany(told.berths.size() == 6);
                    must("berth");
                    String name = newName();
                    must("from");
                    int from = number(0, 9999);
                    must("to");
                    told.berths.add(new Berth(name, from, number(from, 9999)));
                }
                case "loads" -> {
                    must("loads");
                    int ship = known(shipNames(), Set.of());
                    int hold = number(0, told.ships.get(ship).holds - 1);
                    int ware = known(told.wares.stream().map(Ware::name).toList(), Set.of());
                    told.loads.put(List.of(ship, hold, ware), number(0, 20));
                }
                case "lies" -> {
                    must("lies");
                    int ship = known(shipNames(), told.lies.keySet());
                    Set<Integer> full = Set.copyOf(told.lies.values());
                    told.lies.put(ship, known(told.berths.stream().map(Berth::name).toList(), full));
                }
                case "gale" -> {
                    must("gale");
                    told.gale = number(0, 100);
                }
                case "water", "moon", "rides", "may" -> {
                    tooMany(told.formulas.containsKey(word));
                    must(word);
                    scope = word;
                    told.formulas.put(word, word.equals("may") ? test(0) : sum(0));
                }
                default -> throw new Fault(1, begin);
            }
        }

        void tooMany(boolean many) {
            if (many) {
                throw new Fault(6, at);
            }
        }

        Formula test(int open) {
            Formula left = both(open);
            while (is("or")) {
                Formula a = left;
                Formula b = both(open);
                left = s -> a.of(s) + b.of(s) > 0 ? 1 : 0;
            }
            return left;
        }

        Formula both(int open) {
            Formula left = fact(open);
            while (is("and")) {
                Formula a = left;
                Formula b = fact(open);
                left = s -> a.of(s) * b.of(s);
            }
            return left;
        }

        void open(int open) {
            if (open == 7) {
                throw new Fault(5, at);
            }
        }

        Formula fact(int open) {
            if (token().equals("not")) {
                open(open);
                must("not");
                Formula fact = fact(open + 1);
                return s -> 1 - fact.of(s);
            }
            if (token().equals("[")) {
                open(open);
                must("[");
                Formula test = test(open + 1);
                must("]");
                return test;
            }
            if (is("all")) {
                return s -> 1;
            }
            Formula a = sum(open);
            String sign = token();
            if (!List.of("<", ">", "=").contains(sign)) {
                throw new Fault(1, at);
            }
            must(sign);
            Formula b = sum(open);
            return s -> {
                int order = Long.compare(a.of(s), b.of(s));
                return (sign.equals("<") ? order < 0 : sign.equals(">") ? order > 0 : order == 0) ? 1 : 0;
            };
        }

        Formula sum(int open) {
            Formula left = product(open);
            while (token().equals("+") || token().equals("-")) {
                long way = token().equals("+") ? 1 : -1;
                at++;
                Formula a = left;
                Formula b = product(open);
                left = s -> bound(a.of(s) + way * b.of(s));
            }
            return left;
        }

        Formula product(int open) {
            Formula left = part(open);
            while (List.of("*", "/", "%").contains(token())) {
                String sign = token();
                at++;
                Formula a = left;
                Formula b = part(open);
                left = s -> times(sign, a.of(s), b.of(s));
            }
            return left;
        }

        static long times(String sign, long a, long b) {
            if (sign.equals("*")) {
                return bound(a * b);
            }
            if (b == 0) {
                return 0;
            }
            long floor = (long) Math.floor((double) a / b);
            return sign.equals("/") ? floor : a - b * floor;
        }

        static long bound(long x) {
            return x > 1000000 ? 1000000 : x < -1000000 ? -1000000 : x;
        }

        List<String> seen() {
            return switch (scope) {
                case "rides" -> List.of("hour", "water", "moon", "weight", "lift", "tip");
                case "may" -> List.of("hour", "weight", "lift", "tip", "count", "height");
                default -> List.of("hour");
            };
        }

        Formula part(int open) {
            String token = token();
            if (token.isEmpty()) {
                throw new Fault(1, at);
            }
            if (digit(at)) {
                int value = number(0, 9999);
                return s -> value;
            }
            if (seen().contains(token)) {
                must(token);
                return s -> s.get(token);
            }
            if (!List.of("(", "min", "max", "if").contains(token)) {
                throw new Fault(1, at);
            }
            if (!token.equals("(")) {
                must(token);
                if (!token().equals("(")) {
                    throw new Fault(1, at);
                }
            }
            open(open);
            must("(");
            Formula first = token.equals("if") ? test(open + 1) : sum(open + 1);
            if (token.equals("(")) {
                must(")");
                return first;
            }
            must(",");
            Formula second = sum(open + 1);
            if (!token.equals("if")) {
                must(")");
                return token.equals("min") ? s -> Math.min(first.of(s), second.of(s))
                        : s -> Math.max(first.of(s), second.of(s));
            }
            must(",");
            Formula third = sum(open + 1);
            must(")");
            return s -> first.of(s) == 1 ? second.of(s) : third.of(s);
        }
    }

    // ---- reckoning

    private static int clamp(long x) {
        return (int) (x < 0 ? 0 : x > 9999 ? 9999 : x);
    }

    private int tideOf(String which, int hour, int without) {
        Formula formula = told.formulas.get(which);
        return formula == null ? without : clamp(formula.of(Map.of("hour", hour)));
    }

    private int water(int hour) {
        return tideOf("water", hour, 100);
    }

    private int moon(int hour) {
        return tideOf("moon", hour, 0);
    }

    private int weight(int[][] load) {
        int sum = 0;
        for (int[] hold : load) {
            for (int w = 0; w < hold.length; w++) {
                sum += hold[w] * told.wares.get(w).weighs;
            }
        }
        return sum;
    }

    private int lift(int[][] load) {
        int sum = 0;
        for (int[] hold : load) {
            for (int w = 0; w < hold.length; w++) {
                sum += hold[w] * told.wares.get(w).lifts;
            }
        }
        return sum;
    }

    private int count(int[][] load) {
        return Arrays.stream(load).mapToInt(hold -> Arrays.stream(hold).sum()).sum();
    }

    private int tip(int[][] load) {
        int fore = 0;
        int aft = 0;
        for (int h = 0; h < load.length; h++) {
            int heavy = weight(new int[][] {load[h]}) - lift(new int[][] {load[h]});
            if (h == 0 || h == 2) {
                fore += heavy;
            } else {
                aft += heavy;
            }
        }
        return fore - aft;
    }

    private int height(int[][] load, int hour) {
        Formula rides = told.formulas.get("rides");
        if (rides == null) {
            return clamp(water(hour) + (long) lift(load) * moon(hour) / 100 - weight(load));
        }
        Map<String, Integer> sight = Map.of("hour", hour, "water", water(hour), "moon", moon(hour),
                "weight", weight(load), "lift", lift(load), "tip", tip(load));
        return clamp(rides.of(sight));
    }

    private boolean may(int[][] load, int hour) {
        Formula may = told.formulas.get("may");
        if (may == null) {
            return true;
        }
        Map<String, Integer> sight = Map.of("hour", hour, "weight", weight(load), "lift", lift(load),
                "tip", tip(load), "count", count(load), "height", height(load, hour));
        return may.of(sight) == 1;
    }

    private boolean level(int ship, int[][] load) {
        int trims = told.ships.get(ship).trims;
        return tip(load) >= -trims && tip(load) <= trims;
    }

    private boolean safe(int ship, int[][] load, int berth, int hour) {
        Berth place = told.berths.get(berth);
        int height = height(load, hour);
        return level(ship, load) && place.from <= height && height <= place.to;
    }

    private boolean isShip(int ship) {
        return ship >= 0 && ship < told.ships.size();
    }

    private boolean isCell(int ship, int hold, int ware) {
        return isShip(ship) && hold >= 0 && hold < told.ships.get(ship).holds && ware >= 0 && ware < told.wares.size();
    }

    private int no(int kind) {
        refused[kind]++;
        return NONE;
    }

    private String takeTape() {
        String text = tape.toString();
        tape.setLength(0);
        return text;
    }

    private void act() {
        past.add(state.copy());
        if (past.size() > 20) {
            past.remove(0);
        }
    }

    private void keep(int ship, int hold, int ware, int what) {
        state.kept.add(new Kept(state.hour, ship, hold, ware, what));
        if (state.kept.size() > 60) {
            state.kept.remove(0);
        }
    }

    // ---- the face

    int feed(int a, int b, int c, int d, int e) {
        if (tape.length() + 20 > 1600) {
            return no(0);
        }
        for (int four : new int[] {a, b, c, d, e}) {
            for (int k = 3; k >= 0; k--) {
                tape.append((char) (four >>> (8 * k) & 255));
            }
        }
        return tape.length();
    }

    boolean end(int n) {
        if (n < 0 || n > tape.length()) {
            no(0);
            return false;
        }
        tape.setLength(n);
        return true;
    }

    int harbour() {
        try {
            told = new Parser(takeTape()).read();
        } catch (Fault fault) {
            faultKind = fault.kind;
            faultPlace = fault.place;
            return no(1);
        }
        faultKind = 0;
        faultPlace = NONE;
        state = new State();
        for (int s = 0; s < told.ships.size(); s++) {
            state.loads.add(new int[told.ships.get(s).holds][told.wares.size()]);
            state.lies.add(told.lies.getOrDefault(s, NONE));
        }
        told.loads.forEach((cell, many) -> state.loads.get(cell.get(0))[cell.get(1)][cell.get(2)] = many);
        past.clear();
        stowed = List.of();
        ordered = List.of();
        return told.statements;
    }

    int fault(int what) {
        return what == 0 ? faultKind : what == 1 ? faultPlace : NONE;
    }

    int has(int what) {
        return switch (what) {
            case 0 -> told.wares.size();
            case 1 -> told.ships.size();
            case 2 -> told.berths.size();
            case 3 -> state.hour;
            case 4 -> water(state.hour);
            case 5 -> moon(state.hour);
            case 6 -> (int) state.lies.stream().filter(b -> b != NONE).count();
            case 7 -> state.loads.stream().mapToInt(this::count).sum();
            case 8 -> state.kept.size();
            case 9 -> past.size();
            case 10 -> (int) luck;
            default -> NONE;
        };
    }

    int letter(int kind, int which, int k) {
        List<String> names = switch (kind) {
            case 0 -> told.wares.stream().map(Ware::name).toList();
            case 1 -> told.ships.stream().map(Ship::name).toList();
            case 2 -> told.berths.stream().map(Berth::name).toList();
            default -> List.of();
        };
        if (which < 0 || which >= names.size() || k < 0 || k > 5) {
            return NONE;
        }
        return k < names.get(which).length() ? names.get(which).charAt(k) - 96 : 0;
    }

    int ware(int ware, int what) {
        if (ware < 0 || ware >= told.wares.size()) {
            return NONE;
        }
        return switch (what) {
            case 0 -> told.wares.get(ware).weighs;
            case 1 -> told.wares.get(ware).lifts;
            case 2 -> state.loads.stream().mapToInt(l -> Arrays.stream(l).mapToInt(h -> h[ware]).sum()).sum();
            default -> NONE;
        };
    }

    int ship(int ship, int what) {
        if (!isShip(ship)) {
            return NONE;
        }
        int[][] load = state.loads.get(ship);
        return switch (what) {
            case 0 -> told.ships.get(ship).holds;
            case 1 -> told.ships.get(ship).trims;
            case 2 -> state.lies.get(ship);
            case 3 -> weight(load);
            case 4 -> lift(load);
            case 5 -> count(load);
            case 6 -> height(load, state.hour);
            case 7 -> level(ship, load) ? 1 : 0;
            default -> NONE;
        };
    }

    int tips(int ship) {
        return isShip(ship) ? tip(state.loads.get(ship)) : NOTHING;
    }

    int crates(int ship, int hold, int ware) {
        return isCell(ship, hold, ware) ? state.loads.get(ship)[hold][ware] : NONE;
    }

    int berth(int berth, int what) {
        if (berth < 0 || berth >= told.berths.size()) {
            return NONE;
        }
        switch (what) {
            case 0:
                return told.berths.get(berth).from;
            case 1:
                return told.berths.get(berth).to;
            case 2:
                return state.lies.indexOf(berth);
            case 3:
                int bits = 0;
                for (int s = 0; s < told.ships.size(); s++) {
                    bits += safe(s, state.loads.get(s), berth, state.hour) ? 1 << s : 0;
                }
                return bits;
            default:
                return NONE;
        }
    }

    int tide(int hour, int what) {
        if (hour < 0 || hour > 9999 || what < 0 || what > 1) {
            return NONE;
        }
        return what == 0 ? water(hour) : moon(hour);
    }

    private boolean ahead(int n) {
        return n >= 0 && n <= 200 && state.hour + n <= 9999;
    }

    int rides(int ship, int n) {
        return isShip(ship) && ahead(n) ? height(state.loads.get(ship), state.hour + n) : NONE;
    }

    int adrift(int what) {
        for (int n = 1; ahead(n); n++) {
            for (int s = 0; s < told.ships.size(); s++) {
                int berth = state.lies.get(s);
                if (berth != NONE && !safe(s, state.loads.get(s), berth, state.hour + n)) {
                    return what == 0 ? n : what == 1 ? s : NONE;
                }
            }
        }
        return NONE;
    }

    int alike(int first, int second, int k) {
        if (!isShip(first) || !isShip(second) || first == second) {
            return NONE;
        }
        List<Integer> times = new ArrayList<>();
        for (int n = 0; ahead(n); n++) {
            if (rides(first, n) == rides(second, n)) {
                times.add(n);
            }
        }
        return k >= 0 && k < times.size() ? times.get(k) : NONE;
    }

    int berthed(int n, int ship) {
        if (!ahead(n) || (ship != NONE && !isShip(ship))) {
            return NOTHING;
        }
        int ships = told.ships.size();
        boolean[][] fits = new boolean[ships][told.berths.size()];
        for (int s = 0; s < ships; s++) {
            for (int b = 0; b < told.berths.size(); b++) {
                fits[s][b] = safe(s, state.loads.get(s), b, state.hour + n);
            }
        }
        List<Integer> best = new ArrayList<>();
        layAll(fits, new ArrayList<>(), best);
        return ship == NONE ? lain(best) : best.get(ship);
    }

    private static int lain(List<Integer> row) {
        return (int) row.stream().filter(b -> b != NONE).count();
    }

    private void layAll(boolean[][] fits, List<Integer> row, List<Integer> best) {
        if (row.size() == fits.length) {
            if (best.isEmpty() || lain(row) > lain(best)) {
                best.clear();
                best.addAll(row);
            }
            return;
        }
        for (int b = 0; b <= told.berths.size(); b++) {
            boolean none = b == told.berths.size();
            if (none || (fits[row.size()][b] && !row.contains(b))) {
                row.add(none ? NONE : b);
                layAll(fits, row, best);
                row.remove(row.size() - 1);
            }
        }
    }

    int stow(int ship) {
        String row = takeTape();
        boolean good = isShip(ship) && row.length() >= 1 && row.length() <= 6
                && row.chars().allMatch(w -> w < told.wares.size());
        if (!good) {
            return no(5);
        }
        int holds = told.ships.get(ship).holds;
        int best = NONE;
        stowed = List.of();
        for (int code = 0; code < Math.pow(holds, row.length()); code++) {
            int[][] load = copyLoad(state.loads.get(ship));
            Integer[] into = new Integer[row.length()];
            int rest = code;
            for (int k = row.length() - 1; k >= 0; k--) {
                into[k] = rest % holds;
                rest /= holds;
                load[into[k]][row.charAt(k)]++;
            }
            boolean room = Arrays.stream(load).allMatch(h -> Arrays.stream(h).allMatch(c -> c <= 20));
            if (room && (best == NONE || Math.abs(tip(load)) < best)) {
                best = Math.abs(tip(load));
                stowed = List.of(into);
            }
        }
        return best;
    }

    int stowed(int k) {
        return k >= 0 && k < stowed.size() ? stowed.get(k) : NONE;
    }

    int order(int ship) {
        String row = takeTape();
        boolean good = isShip(ship) && state.lies.get(ship) != NONE && row.length() >= 2 && row.length() <= 12
                && row.length() % 2 == 0;
        for (int k = 0; good && k < row.length(); k += 2) {
            good = isCell(ship, row.charAt(k), row.charAt(k + 1));
        }
        if (!good) {
            return no(5);
        }
        List<Integer> found = inOrder(ship, row, copyLoad(state.loads.get(ship)), new ArrayList<>());
        ordered = found == null ? List.of() : found;
        return found == null ? 0 : 1;
    }

    private List<Integer> inOrder(int ship, String row, int[][] load, List<Integer> done) {
        if (done.size() == row.length() / 2) {
            return done;
        }
        for (int k = 0; k < row.length() / 2; k++) {
            if (done.contains(k)) {
                continue;
            }
            int[][] next = copyLoad(load);
            int many = ++next[row.charAt(2 * k)][row.charAt(2 * k + 1)];
            if (many <= 20 && safe(ship, next, state.lies.get(ship), state.hour) && may(next, state.hour)) {
                List<Integer> more = new ArrayList<>(done);
                more.add(k);
                List<Integer> found = inOrder(ship, row, next, more);
                if (found != null) {
                    return found;
                }
            }
        }
        return null;
    }

    int ordered(int k) {
        return k >= 0 && k < ordered.size() ? ordered.get(k) : NONE;
    }

    int swaps(int first, int second) {
        if (!isShip(first) || !isShip(second) || first == second) {
            return NONE;
        }
        for (int most = 0; most <= 2; most++) {
            if (swapped(first, second, state.loads.get(first), state.loads.get(second), most)) {
                return most;
            }
        }
        return NONE;
    }

    private boolean swapped(int first, int second, int[][] a, int[][] b, int most) {
        if (level(first, a) && level(second, b)) {
            return true;
        }
        if (most == 0) {
            return false;
        }
        for (int h = 0; h < a.length; h++) {
            for (int w = 0; w < told.wares.size(); w++) {
                for (int g = 0; a[h][w] > 0 && g < b.length; g++) {
                    for (int v = 0; v < told.wares.size(); v++) {
                        if (b[g][v] > 0) {
                            int[][] a2 = copyLoad(a);
                            int[][] b2 = copyLoad(b);
                            a2[h][w]--;
                            b2[g][v]--;
                            a2[h][v]++;
                            b2[g][w]++;
                            if (a2[h][v] <= 20 && b2[g][w] <= 20 && swapped(first, second, a2, b2, most - 1)) {
                                return true;
                            }
                        }
                    }
                }
            }
        }
        return false;
    }

    int rode(int ship) {
        String row = takeTape();
        boolean good = isShip(ship) && row.length() >= 4 && row.length() <= 40 && row.length() % 4 == 0;
        for (int k = 0; good && k < row.length(); k += 2) {
            good = row.charAt(k) * 256 + row.charAt(k + 1) <= 9999;
        }
        if (!good) {
            return no(5);
        }
        int pairs = 0;
        for (int w = 0; w < told.wares.size(); w++) {
            for (int many = 1; many <= 20; many++) {
                int[][] load = new int[told.ships.get(ship).holds][told.wares.size()];
                load[0][w] = many;
                boolean all = true;
                for (int k = 0; k < row.length(); k += 4) {
                    int hour = row.charAt(k) * 256 + row.charAt(k + 1);
                    all &= height(load, hour) == row.charAt(k + 2) * 256 + row.charAt(k + 3);
                }
                pairs += all ? 1 : 0;
            }
        }
        return pairs;
    }

    int lade(int ship, int hold, int ware) {
        return work(ship, hold, ware, 1);
    }

    int discharge(int ship, int hold, int ware) {
        return work(ship, hold, ware, 0);
    }

    private int work(int ship, int hold, int ware, int what) {
        if (!isCell(ship, hold, ware) || state.lies.get(ship) == NONE) {
            return no(2);
        }
        int[][] load = copyLoad(state.loads.get(ship));
        load[hold][ware] += what == 1 ? 1 : -1;
        if (load[hold][ware] < 0 || load[hold][ware] > 20 || !may(load, state.hour)) {
            return no(2);
        }
        act();
        state.loads.set(ship, load);
        keep(ship, hold, ware, what);
        return load[hold][ware];
    }

    boolean shift(int ship, int hold, int ware, int to) {
        if (!isCell(ship, hold, ware) || !isCell(ship, to, ware) || hold == to
                || state.loads.get(ship)[hold][ware] == 0 || state.loads.get(ship)[to][ware] == 20) {
            no(2);
            return false;
        }
        act();
        state.loads.get(ship)[hold][ware]--;
        state.loads.get(ship)[to][ware]++;
        return true;
    }

    boolean moor(int ship, int berth) {
        boolean good = isShip(ship);
        if (good && berth == NONE) {
            good = state.lies.get(ship) != NONE;
        } else if (good) {
            good = berth >= 0 && berth < told.berths.size() && !state.lies.contains(berth)
                    && safe(ship, state.loads.get(ship), berth, state.hour);
        }
        if (!good) {
            no(3);
            return false;
        }
        act();
        state.lies.set(ship, berth);
        return true;
    }

    int hours(int n) {
        return pass(n, false);
    }

    int gales(int n) {
        return pass(n, true);
    }

    private int pass(int n, boolean bySeed) {
        if (n < 1 || !ahead(n)) {
            return no(3);
        }
        act();
        int loose = 0;
        int lost = 0;
        for (int k = 0; k < n; k++) {
            for (int s = 0; bySeed && s < told.ships.size(); s++) {
                if (state.lies.get(s) == NONE) {
                    luck = (1103515245L * luck + 12345) % (1L << 31);
                    if (luck / 64 % 100 < told.gale) {
                        lost += lose(s);
                    }
                }
            }
            state.hour++;
            for (int s = 0; s < told.ships.size(); s++) {
                int berth = state.lies.get(s);
                if (berth != NONE && !safe(s, state.loads.get(s), berth, state.hour)) {
                    state.lies.set(s, NONE);
                    loose++;
                }
            }
        }
        return bySeed ? lost : loose;
    }

    private int lose(int ship) {
        int[][] load = state.loads.get(ship);
        for (int h = 0; h < load.length; h++) {
            for (int w = 0; w < load[h].length; w++) {
                if (load[h][w] > 0) {
                    load[h][w]--;
                    keep(ship, h, w, 2);
                    return 1;
                }
            }
        }
        return 0;
    }

    boolean undo() {
        if (past.isEmpty()) {
            no(4);
            return false;
        }
        state = past.remove(past.size() - 1);
        return true;
    }

    boolean seed(int seed) {
        if (seed < 0) {
            no(5);
            return false;
        }
        luck = seed;
        return true;
    }

    int kept(int k, int what) {
        if (k < 0 || k >= state.kept.size()) {
            return NONE;
        }
        Kept kept = state.kept.get(k);
        return switch (what) {
            case 0 -> kept.hour;
            case 1 -> kept.ship;
            case 2 -> kept.hold;
            case 3 -> kept.ware;
            case 4 -> kept.what;
            default -> NONE;
        };
    }

    int image() {
        List<Integer> row = new ArrayList<>(List.of(state.hour >> 8, state.hour & 255));
        for (int s = 0; s < told.ships.size(); s++) {
            row.add(state.lies.get(s) + 1);
            for (int[] hold : state.loads.get(s)) {
                Arrays.stream(hold).forEach(row::add);
            }
        }
        row.add(sum(row));
        picture = row.stream().mapToInt(Integer::intValue).toArray();
        return picture.length;
    }

    private static int sum(List<Integer> row) {
        int c = 139;
        for (int octet : row) {
            c = (5 * c + octet) % 251;
        }
        return c;
    }

    int octet(int k) {
        return k >= 0 && k < picture.length ? picture[k] : NONE;
    }

    boolean on() {
        State next = imageOf(takeTape());
        if (next == null) {
            no(5);
            return false;
        }
        state = next;
        past.clear();
        return true;
    }

    private State imageOf(String text) {
        List<Integer> row = new ArrayList<>(text.chars().boxed().toList());
        int length = 3 + told.ships.stream().mapToInt(s -> 1 + s.holds * told.wares.size()).sum();
        if (row.size() != length || row.remove(length - 1) != sum(row.subList(0, length - 1))) {
            return null;
        }
        State next = new State();
        next.hour = row.remove(0) * 256 + row.remove(0);
        boolean good = next.hour <= 9999;
        for (Ship ship : told.ships) {
            int berth = row.remove(0) - 1;
            good &= berth < told.berths.size() && (berth == NONE || !next.lies.contains(berth));
            next.lies.add(berth);
            int[][] load = new int[ship.holds][told.wares.size()];
            for (int[] hold : load) {
                for (int w = 0; w < hold.length; w++) {
                    hold[w] = row.remove(0);
                    good &= hold[w] <= 20;
                }
            }
            next.loads.add(load);
        }
        return good ? next : null;
    }

    int status(int what) {
        return what >= 0 && what < 6 ? refused[what] : NONE;
    }
}
