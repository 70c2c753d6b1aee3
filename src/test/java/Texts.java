import java.util.ArrayList;
import java.util.Collections;
import java.util.List;
import java.util.Random;

/** Makes texts of harbours, and spoils them, by a random source whose seed is told. */
final class Texts {
    private static final String[] NAMES = {"a", "tea", "iron", "feather", "brig", "hoy", "sloop", "quay", "pole",
        "zz", "abcdef", "wares", "li", "lifted", "o", "an", "maxi", "hours", "x", "y", "w", "q", "bb", "cc"};
    private final Random random;
    private List<String> tokens = new ArrayList<>();

    Texts(Random random) {
        this.random = random;
    }

    String harbour() {
        tokens = new ArrayList<>();
        List<String> names = new ArrayList<>(List.of(NAMES));
        names.remove("feather");
        names.remove("lifted");
        Collections.shuffle(names, random);
        int wares = some(7);
        int ships = some(7);
        int berths = some(7);
        List<String> ware = names.subList(0, wares);
        List<String> ship = names.subList(6, 6 + ships);
        List<String> berth = names.subList(12, 12 + berths);
        List<Integer> holds = new ArrayList<>();
        int weigh = random.nextBoolean() ? 100 : 12;
        for (String name : ware) {
            add("ware", name, "weighs", random.nextInt(weigh), "lifts", random.nextInt(weigh), ";");
        }
        for (String name : ship) {
            holds.add(2 + random.nextInt(3));
            add("ship", name, "holds", holds.get(holds.size() - 1), "trims", random.nextInt(random.nextBoolean() ? 1000 : 40), ";");
        }
        for (String name : berth) {
            int from = random.nextInt(random.nextBoolean() ? 9999 : 120);
            add("berth", name, "from", random.nextBoolean() ? 0 : from, "to", from + random.nextInt(random.nextBoolean() ? 10000 - from : 300 + 9699 - Math.max(from, 9699)), ";");
        }
        formulas();
        loads(ware, ship, holds);
        lies(ship, berth);
        if (random.nextInt(3) > 0) {
            add("gale", random.nextInt(101), ";");
        }
        return joined();
    }

    private int some(int bound) {
        return random.nextInt(4) == 0 ? random.nextInt(bound) : Math.max(random.nextInt(bound), random.nextInt(bound));
    }

    private void add(Object... more) {
        for (Object token : more) {
            tokens.add(String.valueOf(token));
        }
    }

    private void loads(List<String> ware, List<String> ship, List<Integer> holds) {
        int many = ware.isEmpty() || ship.isEmpty() ? 0 : random.nextInt(16);
        int most = random.nextBoolean() ? 21 : 4;
        for (int k = 0; k < many; k++) {
            int s = random.nextInt(ship.size());
            int crates = random.nextInt(6) == 0 ? 20 : random.nextInt(most);
            add("loads", ship.get(s), random.nextInt(holds.get(s)), ware.get(random.nextInt(ware.size())), crates, ";");
        }
    }

    private void lies(List<String> ship, List<String> berth) {
        List<String> free = new ArrayList<>(berth);
        Collections.shuffle(free, random);
        for (String name : ship) {
            if (!free.isEmpty() && random.nextInt(3) > 0) {
                add("lies", name, free.remove(0), ";");
            }
        }
    }

    private void formulas() {
        if (random.nextBoolean()) {
            add("water");
            if (random.nextBoolean()) {
                add(random.nextInt(200), "+", "hour", "*", random.nextInt(20), "%", random.nextInt(40));
            } else {
                sum(2, 0, "hour");
            }
            add(";");
        }
        if (random.nextInt(3) > 0) {
            add("moon");
            if (random.nextBoolean()) {
                add(random.nextInt(200), "-", "hour", "*", random.nextInt(20), "%", random.nextInt(90));
            } else {
                sum(2, 0, "hour");
            }
            add(";");
        }
        if (random.nextInt(3) == 0) {
            add("rides");
            sum(1 + random.nextInt(4), 0, "hour", "water", "moon", "weight", "lift", "tip");
            add(";");
        }
        if (random.nextBoolean()) {
            add("may");
            test(1 + random.nextInt(5), 0, "hour", "weight", "lift", "tip", "count", "height");
            add(";");
        }
    }

    private void sum(int size, int open, String... seen) {
        product(size, open, seen);
        while (random.nextInt(3) == 0) {
            add(random.nextBoolean() ? "+" : "-");
            product(size - 1, open, seen);
        }
    }

    private void product(int size, int open, String... seen) {
        part(size, open, seen);
        while (random.nextInt(3) == 0) {
            add(List.of("*", "/", "%").get(random.nextInt(3)));
            part(size - 1, open, seen);
        }
    }

    private void part(int size, int open, String... seen) {
        int choice = size <= 0 || open >= 7 ? random.nextInt(4) : random.nextInt(8);
        switch (choice) {
            case 0, 1 -> add(random.nextInt(random.nextBoolean() ? 10000 : 20));
            case 2, 3 -> add(seen[random.nextInt(seen.length)]);
            case 4 -> {
                add("(");
                sum(size - 1, open + 1, seen);
                add(")");
            }
            case 5, 6 -> {
                add(choice == 5 ? "min" : "max", "(");
                sum(size - 1, open + 1, seen);
                add(",");
                sum(size - 1, open + 1, seen);
                add(")");
            }
            default -> {
                add("if", "(");
                test(size - 1, open + 1, seen);
                add(",");
                sum(size - 1, open + 1, seen);
                add(",");
                sum(size - 1, open + 1, seen);
                add(")");
            }
        }
    }

    private void test(int size, int open, String... seen) {
        both(size, open, seen);
        while (random.nextInt(3) == 0) {
            add("or");
            both(size - 1, open, seen);
        }
    }

    private void both(int size, int open, String... seen) {
        fact(size, open, seen);
        while (random.nextInt(3) == 0) {
            add("and");
            fact(size - 1, open, seen);
        }
    }

    private void fact(int size, int open, String... seen) {
        int choice = size <= 0 || open >= 7 ? random.nextInt(3) : random.nextInt(5);
        if (choice == 3) {
            add("not");
            fact(size, open + 1, seen);
        } else if (choice == 4) {
            add("[");
            test(size - 1, open + 1, seen);
            add("]");
        } else if (choice == 0 && random.nextBoolean()) {
            add("all");
        } else {
            sum(size - 1, open, seen);
            add(List.of("<", ">", "=").get(random.nextInt(3)));
            sum(size - 1, open, seen);
        }
    }

    private String joined() {
        StringBuilder text = new StringBuilder();
        boolean airy = random.nextInt(4) == 0;
        for (String token : tokens) {
            boolean glue = text.length() > 0 && solid(text.charAt(text.length() - 1)) && solid(token.charAt(0));
            if (glue || (airy && random.nextInt(3) == 0)) {
                text.append(random.nextInt(5) == 0 ? '\n' : ' ');
            }
            text.append(token);
        }
        return text.toString();
    }

    private static boolean solid(char c) {
        return Character.isLetterOrDigit(c);
    }

    /** One change to the text that may or may not break it. */
    String spoiled(String text) {
        int at = random.nextInt(text.length() + 1);
        String head = text.substring(0, at);
        String tail = text.substring(at);
        switch (random.nextInt(9)) {
            case 7:
                return nested("hour", "(", "min(3,", "if(not[all],7,", "max((1),");
            case 8:
                return nested("all", "[", "not ", "not[", "if(all,1,2)=(1)and[");
            case 0:
                return head;
            case 1:
                return tail.isEmpty() ? head : head + tail.substring(1);
            case 2:
                String signs = ";+-*/%()[],<>= \n0159azmw#A.";
                return head + signs.charAt(random.nextInt(signs.length())) + tail;
            case 3:
                return head + " " + piece() + " " + tail;
            case 4:
                return swapToken();
            case 5:
                return moveStatement(text);
            default:
                return head + (char) random.nextInt(256) + tail;
        }
    }

    /** Opens some of the openers ahead of each such word, and closes them behind it. */
    private String nested(String word, String... openers) {
        List<String> before = tokens;
        tokens = new ArrayList<>(before);
        for (int at = 0; at < tokens.size(); at++) {
            StringBuilder head = new StringBuilder();
            StringBuilder tail = new StringBuilder();
            for (int k = random.nextInt(10); k > 0; k--) {
                String opener = openers[random.nextInt(openers.length)];
                head.append(opener);
                tail.append(opener.startsWith("not ") ? "" : opener.endsWith("[") ? "]" : ")");
            }
            if (tokens.get(at).equals(word)) {
                tokens.set(at, head + word + tail);
            }
        }
        String text = joined();
        tokens = before;
        return text;
    }

    private String piece() {
        String[] own = {"ware", "weighs", "lifts", "ship", "holds", "trims", "loads", "berth", "from", "to", "lies",
            "water", "moon", "rides", "may", "gale", "hour", "weight", "lift", "tip", "count", "height", "if", "or",
            "and", "not", "all", "min", "max"};
        switch (random.nextInt(6)) {
            case 0: return own[random.nextInt(own.length)];
            case 1: return NAMES[random.nextInt(NAMES.length)];
            case 2: return String.valueOf(random.nextInt(30000));
            case 3: return String.valueOf(random.nextInt(100));
            case 4: return List.of("(", "[", "not", ")", "]", ";", "not not not", "((((").get(random.nextInt(8));
            default: return own[random.nextInt(own.length)] + random.nextInt(10);
        }
    }

    private String swapToken() {
        List<String> before = tokens;
        tokens = new ArrayList<>(before);
        if (!tokens.isEmpty()) {
            tokens.set(random.nextInt(tokens.size()), piece());
        }
        String text = joined();
        tokens = before;
        return text;
    }

    private String moveStatement(String text) {
        List<String> parts = new ArrayList<>(List.of(text.split(";")));
        String part = parts.get(random.nextInt(parts.size()));
        int times = random.nextInt(8) == 0 ? 80 : 1;
        for (int k = 0; k < times; k++) {
            parts.add(random.nextInt(parts.size() + 1), part);
        }
        return String.join(";", parts) + ";";
    }
}
