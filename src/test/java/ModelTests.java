import java.util.ArrayList;
import java.util.HashMap;
import java.util.List;
import java.util.Map;
import java.util.TreeMap;

/** Long runs of made-up calls; each answer and the digest are compared with a plain model's. */
public final class ModelTests {

    private static final int RUNS = 150;
    private static final int CALLS = 512;

    /** A second writing of the document, with lists and maps, that computes all anew. */
    private static final class Model {
        List<Integer> row = new ArrayList<>();
        TreeMap<Integer, List<Integer>> names = new TreeMap<>();
        int[] settings = {2, 2};
        int steps;
        int gone;
        StringBuilder buffer = new StringBuilder();
        List<Model> saved = new ArrayList<>();

        Model copy() {
            Model copy = new Model();
            copy.take(this);
            return copy;
        }

        void take(Model other) {
            row = new ArrayList<>(other.row);
            names = new TreeMap<>(other.names);
            settings = other.settings.clone();
            steps = other.steps;
            gone = other.gone;
        }

        void save() {
            saved.add(copy());
            if (saved.size() > 6) {
                saved.remove(0);
            }
        }

        boolean isPart(int part) {
            return part >= 0 && part <= 7 || names.containsKey(part);
        }

        int depth(int part) {
            return part < 8 ? 0 : 1 + Math.max(depth(names.get(part).get(0)), depth(names.get(part).get(1)));
        }

        int length(int part) {
            return times(part, -1, new HashMap<>());
        }

        /** How often a sign is in a part; -1 stands for any sign. */
        int times(int part, int sign, Map<Integer, Integer> known) {
            if (part < 8) {
                return sign == -1 || part == sign ? 1 : 0;
            }
            if (!known.containsKey(part)) {
                List<Integer> pair = names.get(part);
                known.put(part, times(pair.get(0), sign, known) + times(pair.get(1), sign, known));
            }
            return known.get(part);
        }

        int timesInText(int sign) {
            Map<Integer, Integer> known = new HashMap<>();
            return row.stream().mapToInt(part -> times(part, sign, known)).sum();
        }

        int sign(int place) {
            int rest = place;
            for (int part : row) {
                if (rest < length(part)) {
                    return signIn(part, rest);
                }
                rest -= length(part);
            }
            return -1;
        }

        int signIn(int part, int place) {
            if (part < 8) {
                return part;
            }
            List<Integer> pair = names.get(part);
            int width = length(pair.get(0));
            return place < width ? signIn(pair.get(0), place) : signIn(pair.get(1), place - width);
        }

        int usesInRow(int part) {
            return (int) row.stream().filter(p -> p == part).count();
        }

        int usesInPairs(int part) {
            return (int) names.values().stream().flatMap(List::stream).filter(p -> p == part).count();
        }

        int uses(int part) {
            return usesInRow(part) + usesInPairs(part);
        }

        /** The places of the occurrences that count: each one that shares no part with one that counts. */
        List<Integer> places(List<Integer> pair) {
            List<Integer> places = new ArrayList<>();
            for (int i = 0; i + 1 < row.size(); i++) {
                if (row.subList(i, i + 2).equals(pair) && !places.contains(i - 1)) {
                    places.add(i);
                }
            }
            return places;
        }

        /** First and second part, how often, the name; null if there is no step. */
        int[] next() {
            int often = 0;
            List<Integer> best = null;
            for (int first = 0; first < 24; first++) {
                for (int second = 0; second < 24; second++) {
                    int here = places(List.of(first, second)).size();
                    if (here > often) {
                        often = here;
                        best = List.of(first, second);
                    }
                }
            }
            if (best == null || often < settings[0]) {
                return null;
            }
            for (int name : names.keySet()) {
                if (names.get(name).equals(best)) {
                    return new int[] {best.get(0), best.get(1), often, name};
                }
            }
            for (int name = 8; name < 24; name++) {
                if (!names.containsKey(name)) {
                    return new int[] {best.get(0), best.get(1), often, name};
                }
            }
            return null;
        }

        int name() {
            int[] next = next();
            if (next == null) {
                return -1;
            }
            List<Integer> pair = List.of(next[0], next[1]);
            List<Integer> places = places(pair);
            for (int i = places.size() - 1; i >= 0; i--) {
                int place = places.get(i);
                row.remove(place + 1);
                row.set(place, next[3]);
            }
            names.put(next[3], pair);
            steps++;
            return next[3];
        }

        int nameAll() {
            int before = steps;
            while (name() != -1) {
                continue;
            }
            return steps - before;
        }

        int letGo() {
            int before = gone;
            boolean again = true;
            while (again) {
                again = false;
                for (int name : new ArrayList<>(names.keySet())) {
                    boolean rare = uses(name) < settings[1] && usesInPairs(name) == 0;
                    if (rare && row.size() + usesInRow(name) <= 64) {
                        for (int i = row.indexOf(name); i >= 0; i = row.indexOf(name)) {
                            openAt(i);
                        }
                        names.remove(name);
                        gone++;
                        again = true;
                        break;
                    }
                }
            }
            return gone - before;
        }

        void openAt(int place) {
            List<Integer> pair = names.get(row.remove(place));
            row.addAll(place, pair);
        }

        void dropUnused() {
            while (names.keySet().removeIf(name -> uses(name) == 0)) {
                continue;
            }
        }

        int cut(int place) {
            row = new ArrayList<>(row.subList(0, place));
            dropUnused();
            return names.size();
        }

        int open(int place) {
            int name = row.get(place);
            openAt(place);
            dropUnused();
            return name;
        }

        int openAll() {
            for (int i = 0; i < row.size(); i++) {
                while (row.get(i) >= 8) {
                    openAt(i);
                }
            }
            names.clear();
            return row.size();
        }

        boolean isText() {
            return buffer.toString().matches("([a-h][2-9]?)+");
        }

        int firstError() {
            for (int i = 1; i <= buffer.length(); i++) {
                if (!buffer.substring(0, i).matches("([a-h][2-9]?)+")) {
                    return i - 1;
                }
            }
            return buffer.length();
        }

        String text() {
            StringBuilder text = new StringBuilder();
            for (int i = 0; i < buffer.length(); i++) {
                char c = buffer.charAt(i);
                if (c > '9') {
                    text.append(c);
                } else {
                    text.append(String.valueOf(buffer.charAt(i - 1)).repeat(c - '1'));
                }
            }
            return text.toString();
        }

        int size() {
            return row.size() + 2 * names.size();
        }

        int greatestDepth() {
            return row.stream().mapToInt(this::depth).max().orElse(0);
        }

        int about(int part, int what) {
            switch (what) {
                case 0: return part < 8 ? -1 : names.get(part).get(0);
                case 1: return part < 8 ? -1 : names.get(part).get(1);
                case 2: return uses(part);
                case 3: return usesInRow(part);
                case 4: return depth(part);
                case 5: return length(part);
                case 6: return signIn(part, 0);
                default: return signIn(part, length(part) - 1);
            }
        }

        int count(int what) {
            switch (what) {
                case 0: return row.size();
                case 1: return names.size();
                case 2: return timesInText(-1);
                case 3: return (int) row.stream().distinct().count();
                case 4: return greatestDepth();
                case 5: return size();
                case 6: return steps;
                case 7: return gone;
                default: return saved.size();
            }
        }

        int ifNamed(int what) {
            Model then = copy();
            int made = then.nameAll();
            return new int[] {made, then.row.size(), then.size(), then.greatestDepth()}[what];
        }

        int bestOften() {
            int best = 2;
            for (int often = 9; often >= 2; often--) {
                best = sizeWith(often) <= sizeWith(best) ? often : best;
            }
            return best;
        }

        int sizeWith(int often) {
            Model then = copy();
            then.settings[0] = often;
            then.nameAll();
            return then.size();
        }

        double saved() {
            return row.isEmpty() ? 0.0 : 1.0 - (double) size() / timesInText(-1);
        }

        long digest() {
            List<Long> values = new ArrayList<>();
            for (int what = 0; what <= 8; what++) {
                values.add((long) count(what));
            }
            values.add((long) settings[0]);
            values.add((long) settings[1]);
            row.forEach(part -> values.add((long) part));
            for (int sign = 0; sign < 8; sign++) {
                values.add((long) timesInText(sign));
                values.add((long) about(sign, 2));
                values.add((long) about(sign, 3));
            }
            for (int name : names.keySet()) {
                values.add((long) name);
                for (int what = 0; what <= 7; what++) {
                    values.add((long) about(name, what));
                }
            }
            for (int i = 0; i < 64; i++) {
                values.add((long) sign(i));
            }
            int[] next = next();
            for (int what = 0; what <= 3; what++) {
                values.add(next == null ? -1L : next[what]);
            }
            values.add((long) places(List.of(0, 1)).size());
            values.add((long) places(List.of(0, 0)).size());
            for (int what = 0; what <= 3; what++) {
                values.add((long) ifNamed(what));
            }
            values.add((long) bestOften());
            values.add(Double.doubleToLongBits(saved()));
            values.add((long) buffer.length());
            buffer.chars().forEach(code -> values.add((long) code));
            long hash = 2749;
            for (long value : values) {
                hash = 31 * hash + value;
            }
            return hash;
        }

        // ---- the calls with their exceptions, an answer or an exception's name as a text

        String call(String method, int a, int b) {
            String refusal = refusal(method, a, b);
            if (refusal != null) {
                return refusal;
            }
            if ("grow add cut open name nameAll letGo openAll set".matches("(.* )?" + method + "( .*)?")) {
                save();
            }
            return String.valueOf(answer(method, a, b));
        }

        private String refusal(String method, int a, int b) {
            String state = "IllegalStateException";
            String argument = "IllegalArgumentException";
            String index = "IndexOutOfBoundsException";
            switch (method) {
                case "grow": return !isText() ? argument : row.size() + text().length() > 64 ? state : null;
                case "add": return !isPart(a) ? index : row.size() == 64 ? state : null;
                case "cut": return a < 0 || a > row.size() ? index : null;
                case "open":
                    return a < 0 || a >= row.size() ? index : row.get(a) < 8 || row.size() == 64 ? state : null;
                case "openAll": return timesInText(-1) > 64 ? state : null;
                case "set": return a < 0 || a > 1 ? index : b < 2 - a || b > 9 ? argument : null;
                case "append": return a < 33 || a > 126 ? argument : buffer.length() == 60 ? state : null;
                case "undo": return saved.isEmpty() ? state : null;
                case "part":
                case "sign": return a < 0 ? argument : null;
                case "about": return !isPart(a) ? index : b < 0 || b > 7 ? argument : null;
                case "pair": return !isPart(a) || !isPart(b) ? index : null;
                case "next":
                case "ifNamed": return a < 0 || a > 3 ? argument : null;
                case "count": return a < 0 || a > 8 ? argument : null;
                case "times": return a < 0 || a > 7 ? index : null;
                case "setting": return a < 0 || a > 1 ? index : null;
                default: return null;
            }
        }

        private Object answer(String method, int a, int b) {
            switch (method) {
                case "grow":
                    text().chars().forEach(c -> row.add(c - 'a'));
                    buffer.setLength(0);
                    return row.size();
                case "add":
                    row.add(a);
                    return row.size();
                case "cut": return cut(a);
                case "open": return open(a);
                case "name": return name();
                case "nameAll": return nameAll();
                case "letGo": return letGo();
                case "openAll": return openAll();
                case "set":
                    int before = settings[a];
                    settings[a] = b;
                    return before;
                case "append": return buffer.append((char) a).length();
                case "clearBuffer":
                    int length = buffer.length();
                    buffer.setLength(0);
                    return length;
                case "firstError": return firstError();
                case "undo":
                    take(saved.remove(saved.size() - 1));
                    return saved.size();
                case "part": return a < row.size() ? row.get(a) : -1;
                case "sign": return sign(a);
                case "about": return about(a, b);
                case "pair": return places(List.of(a, b)).size();
                case "next": return next() == null ? -1 : next()[a];
                case "count": return count(a);
                case "times": return timesInText(a);
                case "setting": return settings[a];
                case "ifNamed": return ifNamed(a);
                case "bestOften": return bestOften();
                case "saved": return saved();
                default: return digest();
            }
        }
    }

    // ---- the program's calls

    private static String call(PairNames x, String method, int a, int b) {
        try {
            return String.valueOf(answer(x, method, a, b));
        } catch (RuntimeException e) {
            return e.getClass().getSimpleName();
        }
    }

    private static Object answer(PairNames x, String method, int a, int b) {
        switch (method) {
            case "grow": return x.grow();
            case "add": return x.add(a);
            case "cut": return x.cut(a);
            case "open": return x.open(a);
            case "name": return x.name();
            case "nameAll": return x.nameAll();
            case "letGo": return x.letGo();
            case "openAll": return x.openAll();
            case "set": return x.set(a, b);
            case "append": return x.append(a);
            case "clearBuffer": return x.clearBuffer();
            case "firstError": return x.firstError();
            case "undo": return x.undo();
            case "part": return x.part(a);
            case "sign": return x.sign(a);
            case "about": return x.about(a, b);
            case "pair": return x.pair(a, b);
            case "next": return x.next(a);
            case "count": return x.count(a);
            case "times": return x.times(a);
            case "setting": return x.setting(a);
            case "ifNamed": return x.ifNamed(a);
            case "bestOften": return x.bestOften();
            case "saved": return x.saved();
            default: return x.digest();
        }
    }

    // ---- the runs

    private static final String[] CHANGES = {"grow", "grow", "add", "add", "add", "cut", "open", "open", "name", "name",
        "name", "nameAll", "letGo", "openAll", "set", "clearBuffer", "undo", "undo"};
    private static final String[] LOOKS = {"firstError", "part", "sign", "about", "pair", "next", "count", "times",
        "setting", "ifNamed", "saved"};

    private long seed;
    private final PairNames x = new PairNames();
    private final Model model = new Model();
    private final StringBuilder told = new StringBuilder();
    private int calls;
    private int wrong;

    private ModelTests(int run) {
        seed = run * 7919L + 17;
    }

    private int below(int bound) {
        seed = seed * 6364136223846793005L + 1442695040888963407L;
        return (int) ((seed >>> 33) % bound);
    }

    private void both(String method, int a, int b) {
        if (calls >= CALLS) {
            return;
        }
        calls++;
        told.append(method).append('(').append(a).append(", ").append(b).append(") ");
        String got = call(x, method, a, b);
        String want = model.call(method, a, b);
        if (!got.equals(want)) {
            wrong++;
            System.out.println(told + "answered " + got + ", due is " + want);
        }
    }

    /** Mostly in range, at times beyond its ends. */
    private int number(int bound) {
        switch (below(12)) {
            case 0: return -1 - below(3);
            case 1: return bound + below(3);
            case 2: return below(2) == 0 ? Integer.MAX_VALUE - below(2) : Integer.MIN_VALUE + below(2);
            default: return below(bound);
        }
    }

    private int somePart() {
        return model.row.isEmpty() || below(4) == 0 ? number(24) : model.row.get(below(model.row.size()));
    }

    private void type(int letters) {
        int length = 1 + below(12);
        for (int i = 0; i < length; i++) {
            both("append", below(100) == 0 ? number(127) : 'a' + below(letters), 0);
            if (below(6) == 0) {
                both("append", (below(40) == 0 ? '0' : '2') + below(below(4) == 0 ? 8 : 2), 0);
            }
        }
    }

    private void change(int letters) {
        String method = CHANGES[below(CHANGES.length)];
        switch (method) {
            case "grow":
                if (below(6) == 0) {
                    both("clearBuffer", 0, 0);
                }
                type(letters);
                both("grow", 0, 0);
                break;
            case "cut":
                int parts = model.row.size();
                both("cut", below(3) == 0 ? number(parts + 1) : parts - below(parts / 3 + 1), 0);
                break;
            case "open":
                both("open", number(model.row.size() + 1), 0);
                break;
            case "set":
                both("set", number(2), below(3) == 0 ? number(11) : 1 + below(4));
                break;
            default:
                both(method, somePart(), 0);
        }
    }

    private void look() {
        String method = LOOKS[below(LOOKS.length)];
        switch (method) {
            case "about":
                both(method, somePart(), number(8));
                break;
            case "pair":
                both(method, somePart(), somePart());
                break;
            default:
                both(method, number(below(8) == 0 ? 200 : 10), 0);
        }
    }

    private int run() {
        int letters = 1 + below(8);
        while (calls < CALLS && wrong == 0) {
            change(letters);
            look();
            if (below(12) == 0) {
                both("digest", 0, 0);
                both("bestOften", 0, 0);
            }
            if (calls > CALLS / 2 && below(30) == 0) {
                doubleOften();
            }
        }
        return wrong;
    }

    /** Adds the deepest name twice and names it, so that lengths grow. */
    private void doubleOften() {
        for (int i = 0; i < 8; i++) {
            int deepest = model.row.stream().reduce(0, (p, q) -> model.depth(q) > model.depth(p) ? q : p);
            both("cut", Math.min(model.row.size(), 40), 0);
            both("add", deepest, 0);
            both("add", deepest, 0);
            both("add", deepest, 0);
            both("add", deepest, 0);
            both("name", 0, 0);
        }
        both("digest", 0, 0);
        both("openAll", 0, 0);
    }

    public static void main(String[] args) {
        int wrong = 0;
        int calls = 0;
        for (int run = 0; run < RUNS && wrong == 0; run++) {
            ModelTests test = new ModelTests(run);
            wrong += test.run();
            calls += test.calls;
        }
        System.out.println(calls + " calls, " + wrong + " wrong");
        if (wrong != 0) {
            System.exit(1);
        }
    }
}
