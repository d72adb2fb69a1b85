import java.math.BigInteger;
import java.util.ArrayList;
import java.util.List;
import java.util.function.Supplier;

/** What the tests share: counted checks, and rows that are made and shown as texts. */
abstract class Checks {

    static final String ISE = "IllegalStateException";
    static final String IAE = "IllegalArgumentException";
    static final String IOOBE = "IndexOutOfBoundsException";
    static final int[] EXTREMES = {
        Integer.MIN_VALUE, Integer.MIN_VALUE + 1, -65536, -2, Integer.MAX_VALUE, Integer.MAX_VALUE - 1, 65536, 1000};

    /** What is tested; it stands before what is wrong. */
    static String tested = "";

    private static int checks = 0;
    private static int wrong = 0;

    /** Makes an object, each time by the same calls. */
    interface Maker {
        PairNames make();
    }

    /** A call of the face. */
    interface Call {
        Object on(PairNames x);
    }

    static void due(String what, Object got, Object want) {
        checks++;
        if (!got.equals(want)) {
            wrong++;
            System.out.println(tested + ": " + what + " answered " + got + ", due is " + want);
        }
    }

    static int checks() {
        return checks;
    }

    static void finish() {
        System.out.println(checks + " checks, " + wrong + " wrong");
        if (wrong != 0) {
            System.exit(1);
        }
    }

    /** The answer as a text, or the name of the exception that is thrown. */
    static String answer(Supplier<Object> call) {
        try {
            return String.valueOf(call.get());
        } catch (RuntimeException e) {
            return e.getClass().getSimpleName();
        }
    }

    /** The call throws exactly this, and the object is as before. */
    static void refused(String what, PairNames x, String exception, Supplier<Object> call) {
        String before = look(x);
        due(what + " throws", answer(call), exception);
        due("after " + what, look(x), before);
    }

    /**
     * The call throws exactly this, and then the object, its saved states too, is the same as one
     * that is made alike and not called.
     */
    static void refused(String what, String exception, Maker maker, Call call) {
        PairNames x = maker.make();
        due(what + " throws", answer(() -> call.on(x)), exception);
        due("after " + what, whole(x), whole(maker.make()));
    }

    /** Few calls, for an object has 512; the digest holds all but the saved states. */
    static String look(PairNames x) {
        return x.digest() + " " + x.firstError();
    }

    /** All, and all saved states; the object is used up. */
    static String whole(PairNames x) {
        StringBuilder all = new StringBuilder(look(x));
        while (x.count(8) > 0) {
            all.append(" undo ").append(x.undo()).append(' ').append(look(x));
        }
        return all.toString();
    }

    static void type(PairNames x, String text) {
        for (int i = 0; i < text.length(); i++) {
            x.append(text.charAt(i));
        }
    }

    static int grow(PairNames x, String text) {
        type(x, text);
        return x.grow();
    }

    static PairNames with(String text) {
        PairNames x = new PairNames();
        grow(x, text);
        return x;
    }

    /** The row, a sign as its letter and a name as its number in brackets. */
    static String row(PairNames x) {
        StringBuilder row = new StringBuilder();
        for (int i = 0; x.part(i) != PairNames.NONE; i++) {
            row.append(shown(x.part(i)));
        }
        return row.toString();
    }

    static String shown(int part) {
        return part < 8 ? String.valueOf((char) ('a' + part)) : "[" + part + "]";
    }

    static boolean hasName(PairNames x, int name) {
        try {
            x.about(name, 0);
            return true;
        } catch (IndexOutOfBoundsException e) {
            return false;
        }
    }

    static String names(PairNames x) {
        StringBuilder names = new StringBuilder();
        for (int name = 8; name < 24; name++) {
            if (hasName(x, name)) {
                names.append(name).append('=').append(shown(x.about(name, 0)));
                names.append(shown(x.about(name, 1))).append(' ');
            }
        }
        return names.toString().trim();
    }

    static String text(PairNames x) {
        StringBuilder text = new StringBuilder();
        for (int i = 0; i < 64 && x.sign(i) != PairNames.NONE; i++) {
            text.append((char) ('a' + x.sign(i)));
        }
        return text.toString();
    }

    /** A row of names that double: name 8 is aa, each later one twice the one before. */
    static PairNames doubled(int names) {
        PairNames x = with("a4");
        for (int name = 8; name < 8 + names; name++) {
            due("a doubling name", x.name(), name);
            if (name < 7 + names) {
                x.add(name);
                x.add(name);
            }
        }
        return x;
    }

    /** All 16 names in use, each twice in the row, each for an unlike pair: aa to ah, ba to bh. */
    static PairNames sixteenNames() {
        PairNames x = new PairNames();
        for (int i = 0; i < 16; i++) {
            int first = i < 8 ? 0 : 1;
            x.add(first);
            x.add(i % 8);
            x.add(first);
            x.add(i % 8);
            x.name();
        }
        return x;
    }

    static long bits(double share) {
        return Double.doubleToLongBits(share);
    }

    /** The hash as the document words it, from the other calls of the face, without a limit. */
    static BigInteger hash(PairNames x, String buffer) {
        List<Long> values = new ArrayList<>();
        for (int what = 0; what <= 8; what++) {
            values.add((long) x.count(what));
        }
        values.add((long) x.setting(0));
        values.add((long) x.setting(1));
        int parts = x.count(0);
        for (int place = 0; place < parts; place++) {
            values.add((long) x.part(place));
        }
        for (int sign = 0; sign <= 7; sign++) {
            values.add((long) x.times(sign));
            values.add((long) x.about(sign, 2));
            values.add((long) x.about(sign, 3));
        }
        for (int name = 8; name <= 23; name++) {
            for (int what = hasName(x, name) ? -1 : 8; what <= 7; what++) {
                values.add((long) (what < 0 ? name : x.about(name, what)));
            }
        }
        for (int place = 0; place < 64; place++) {
            values.add((long) x.sign(place));
        }
        for (int what = 0; what <= 3; what++) {
            values.add((long) x.next(what));
        }
        values.add((long) x.pair(0, 1));
        values.add((long) x.pair(0, 0));
        for (int what = 0; what <= 3; what++) {
            values.add((long) x.ifNamed(what));
        }
        values.add((long) x.bestOften());
        values.add(bits(x.saved()));
        values.add((long) buffer.length());
        buffer.chars().forEach(code -> values.add((long) code));
        BigInteger hash = BigInteger.valueOf(2749);
        for (long value : values) {
            hash = hash.multiply(BigInteger.valueOf(31)).add(BigInteger.valueOf(value));
        }
        return hash;
    }
}
