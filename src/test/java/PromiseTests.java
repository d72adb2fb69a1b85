/** One method for each promise: ordinary inputs, the edges that the document names, wrong inputs. */
public final class PromiseTests extends Checks {

    public static void main(String[] args) {
        newObject();
        grow();
        add();
        cut();
        open();
        name();
        nameAll();
        letGo();
        openAll();
        set();
        append();
        clearBuffer();
        firstError();
        undo();
        part();
        sign();
        about();
        pair();
        next();
        count();
        times();
        setting();
        ifNamed();
        bestOften();
        saved();
        digest();
        finish();
    }

    // ---- the promises

    private static void newObject() {
        tested = "1 new object";
        PairNames x = new PairNames();
        due("NONE", PairNames.NONE, -1);
        due("row", row(x), "");
        due("names", names(x), "");
        for (int what = 0; what <= 8; what++) {
            due("count(" + what + ")", x.count(what), 0);
        }
        due("setting(0)", x.setting(0), 2);
        due("setting(1)", x.setting(1), 2);
        due("buffer", x.clearBuffer(), 0);
        due("name()", x.name(), -1);
        due("objects share nothing", with("abab").count(0) + new PairNames().count(0), 4);
    }

    private static void grow() {
        tested = "2 grow";
        PairNames x = new PairNames();
        due("grow", grow(x, "ab3h"), 5);
        due("row", row(x), "abbbh");
        due("the buffer", x.clearBuffer(), 0);
        due("grow again", grow(x, "c9d2"), 16);
        due("row", row(x), "abbbhcccccccccdd");
        due("saved states", x.count(8), 2);
        refused("empty buffer", x, IAE, x::grow);
        type(x, "ab1");
        refused("ab1", x, IAE, x::grow);
        due("the buffer stays", x.clearBuffer(), 3);
        type(x, "2a");
        refused("2a", x, IAE, x::grow);
        x.clearBuffer();
        type(x, "b9b9b9b9b9b3");
        due("64 parts", x.grow(), 64);
        type(x, "i");
        refused("not a text comes before too long", x, IAE, x::grow);
        x.clearBuffer();
        type(x, "a");
        refused("too long", x, ISE, x::grow);
        due("the buffer stays", x.clearBuffer(), 1);
        x.cut(60);
        type(x, "a5");
        refused("65 parts", x, ISE, x::grow);
        x.clearBuffer();
        type(x, "h4");
        due("64 parts again", x.grow(), 64);
        due("last", x.part(63), 7);
        PairNames y = new PairNames();
        for (int i = 0; i < 30; i++) {
            type(y, "a9");
        }
        refused("270 signs", y, ISE, y::grow);
    }

    private static void add() {
        tested = "3 add";
        PairNames x = new PairNames();
        due("add(0)", x.add(0), 1);
        due("add(7)", x.add(7), 2);
        due("row", row(x), "ah");
        due("saved states", x.count(8), 2);
        refused("add(8)", x, IOOBE, () -> x.add(8));
        refused("add(-1)", x, IOOBE, () -> x.add(-1));
        for (int extreme : EXTREMES) {
            refused("add(" + extreme + ")", x, IOOBE, () -> x.add(extreme));
        }
        grow(x, "ah");
        x.name();
        due("a name", x.add(8), 3);
        due("row", row(x), "[8][8][8]");
        refused("add(9)", x, IOOBE, () -> x.add(9));
        refused("add(24)", x, IOOBE, () -> x.add(24));
        while (x.count(0) < 64) {
            x.add(8);
        }
        refused("a full row", x, ISE, () -> x.add(8));
        refused("no part comes before a full row", x, IOOBE, () -> x.add(9));
        x.cut(0);
        refused("a name that is gone", x, IOOBE, () -> x.add(8));
        PairNames all = sixteenNames();
        due("name 23", all.add(23), all.count(0));
        refused("24 is no name", all, IOOBE, () -> all.add(24));
    }

    private static void cut() {
        tested = "4 cut";
        PairNames x = with("abab");
        due("no names", x.cut(3), 0);
        due("row", row(x), "aba");
        due("at the end", x.cut(3), 0);
        due("saved states", x.count(8), 3);
        refused("behind the end", x, IOOBE, () -> x.cut(4));
        refused("below 0", x, IOOBE, () -> x.cut(-1));
        for (int extreme : EXTREMES) {
            refused("cut(" + extreme + ")", x, IOOBE, () -> x.cut(extreme));
        }
        PairNames y = with("cabcabab");
        y.nameAll();
        due("row", row(y), "[9][9][8]");
        due("a use in the row goes", y.cut(2), 2);
        due("a use in a pair keeps", names(y), "8=ab 9=c[8]");
        due("the last use", y.cut(1), 2);
        due("both are gone", y.cut(0), 0);
        due("names", names(y), "");
        due("row", row(y), "");
        due("cut nothing", y.cut(0), 0);
        PairNames deep = doubled(16);
        due("all 16 are there", deep.cut(1), 16);
        due("all 16 go", deep.cut(0), 0);
        PairNames z = with("ababcdcd");
        z.nameAll();
        due("row", row(z), "[8][8][9][9]");
        due("one stays", z.cut(2), 1);
        due("names", names(z), "8=ab");
    }

    private static void open() {
        tested = "5 open";
        PairNames x = with("cabcabab");
        x.nameAll();
        due("open(1)", x.open(1), 9);
        due("row", row(x), "[9]c[8][8]");
        due("names", names(x), "8=ab 9=c[8]");
        due("the last use", x.open(0), 9);
        due("row", row(x), "c[8]c[8][8]");
        due("names", names(x), "8=ab");
        due("open(4)", x.open(4), 8);
        due("row", row(x), "c[8]c[8]ab");
        refused("a sign", x, ISE, () -> x.open(0));
        refused("behind the end", x, IOOBE, () -> x.open(6));
        refused("below 0", x, IOOBE, () -> x.open(-1));
        for (int extreme : EXTREMES) {
            refused("open(" + extreme + ")", x, IOOBE, () -> x.open(extreme));
        }
        int states = x.count(8);
        x.open(1);
        x.open(4);
        due("row", row(x), "cabcabab");
        due("names", names(x), "");
        due("saved states", x.count(8), Math.min(6, states + 2));
        while (x.count(0) < 60) {
            x.add(7);
        }
        x.name();
        while (x.count(0) < 64) {
            x.add(6);
        }
        due("a name in a full row", x.part(10) >= 8, true);
        refused("a full row", x, ISE, () -> x.open(10));
        refused("no place comes before a full row", x, IOOBE, () -> x.open(64));
        x.cut(63);
        x.open(10);
        due("63 parts can be opened", x.count(0), 64);
        PairNames pairUse = with("abcabc");
        pairUse.nameAll();
        pairUse.add(8);
        due("a name with a use in a pair", pairUse.open(2), 8);
        due("stays", names(pairUse), "8=ab 9=[8]c");
    }

    private static void name() {
        tested = "6 name";
        PairNames x = with("abcab");
        due("most often", x.name(), 8);
        due("row", row(x), "[8]c[8]");
        due("no pair twice", x.name(), -1);
        due("no step is saved, too", x.count(8), 3);
        due("steps", x.count(6), 1);
        PairNames lowFirst = with("cdcdabab");
        lowFirst.name();
        due("the lowest first part", row(lowFirst), "cdcd[8][8]");
        PairNames lowSecond = with("acacababaa");
        lowSecond.name();
        due("aa occurs once, ab twice, ac twice", names(lowSecond), "8=ab");
        PairNames most = with("ababdcdcdc");
        most.name();
        due("the most frequent one", names(most), "8=dc");
        PairNames three = with("a3");
        due("aaa holds aa once", three.name(), -1);
        PairNames five = with("a5");
        due("aaaaa holds aa twice", five.name(), 8);
        due("from the left", row(five), "[8][8]a");
        PairNames again = with("ababc");
        again.name();
        grow(again, "abab");
        due("the name that stands for the pair", again.name(), 8);
        due("row", row(again), "[8][8]c[8][8]");
        due("names", again.count(1), 1);
        due("steps", again.count(6), 2);
        due("the lowest name that there is not", again.name(), 9);
        due("row", row(again), "[9]c[9]");
        again.open(2);
        again.open(0);
        due("8 stays, 9 is gone", names(again), "8=ab");
        grow(again, "d4");
        due("9 again", again.name(), 9);
        due("names", names(again), "8=ab 9=dd");
        PairNames full = sixteenNames();
        due("16 names", full.count(1), 16);
        grow(full, "hghg");
        String before = row(full);
        due("no name is left", full.name(), -1);
        due("row", row(full), before);
        grow(full, "aaaaabababab");
        due("ab is most frequent, and it has a name", full.name(), 9);
        PairNames strict = with("abab");
        strict.set(0, 3);
        due("too rare", strict.name(), -1);
        grow(strict, "cab");
        due("three times", strict.name(), 8);
        PairNames kept = sixteenNames();
        grow(kept, "hghghgabab");
        due("hg is most frequent, but there is no name; ab is not asked", kept.name(), -1);
        grow(kept, "abab");
        due("ab is most frequent now, and it has a name", kept.name(), 9);
        due("the end", row(kept).endsWith("hghghg[9][9][9][9]"), true);
        due("names", kept.count(1), 16);
    }

    private static void nameAll() {
        tested = "7 nameAll";
        PairNames x = with("abcabcabd");
        due("steps", x.nameAll(), 2);
        due("row", row(x), "[8][9][9]d");
        due("names", names(x), "8=ab 9=c[8]");
        due("no step", x.nameAll(), 0);
        due("one state each", x.count(8), 3);
        x.undo();
        x.undo();
        due("undone as one call", row(x), "abcabcabd");
        due("steps are undone, too", x.count(6), 0);
        PairNames long64 = with("a9a9a9a9a9a9a9a");
        due("64 a", long64.nameAll(), 5);
        due("row", row(long64), "[12][12]");
        due("steps", long64.count(6), 5);
        due("depth", long64.count(4), 5);
        due("an empty row", new PairNames().nameAll(), 0);
        PairNames strict = with("abcabcab");
        strict.set(0, 3);
        due("only what occurs thrice", strict.nameAll(), 1);
        due("row", row(strict), "[8]c[8]c[8]");
    }

    private static void letGo() {
        tested = "8 letGo";
        PairNames x = with("cabcabab");
        x.nameAll();
        due("none is rare", x.letGo(), 0);
        due("saved, too", x.count(8), 3);
        x.cut(2);
        due("row", row(x), "[9][9]");
        due("8 is used once, but in a pair", x.letGo(), 0);
        x.cut(1);
        due("9, then 8", x.letGo(), 2);
        due("row", row(x), "cab");
        due("names", names(x), "");
        due("let go", x.count(7), 2);
        x.undo();
        due("undone as one call", row(x), "[9]");
        due("let go, undone", x.count(7), 0);
        PairNames few = with("abababcdcdcd");
        few.nameAll();
        few.set(1, 9);
        due("row", row(few), "[8][8][8][9][9][9]");
        due("both", few.letGo(), 2);
        due("row", row(few), "abababcdcdcd");
        PairNames one = with("abab");
        one.name();
        one.cut(1);
        one.set(1, 1);
        due("used once is enough", one.letGo(), 0);
        one.set(1, 2);
        due("used once is rare", one.letGo(), 1);
        PairNames full = with("ababcdcd");
        full.nameAll();
        full.set(1, 3);
        while (full.count(0) < 62) {
            full.add(7);
        }
        due("only the lowest one has room", full.letGo(), 1);
        due("row", row(full).substring(0, 10), "abab[9][9]");
        due("parts", full.count(0), 64);
        PairNames kept = with("ababcdc");
        kept.name();
        grow(kept, "d");
        kept.name();
        due("row", row(kept), "[8][8][9][9]");
        kept.cut(3);
        kept.set(1, 3);
        while (kept.count(0) < 63) {
            kept.add(7);
        }
        due("the lower has no room, the other one has", kept.letGo(), 1);
        due("names", names(kept), "8=ab");
        due("row", row(kept).substring(0, 8), "[8][8]cd");
        due("let go", kept.count(7), 1);
        due("open does not count", opened(), 0);
    }

    private static int opened() {
        PairNames x = with("abab");
        x.name();
        x.open(0);
        x.open(2);
        return x.count(7) + x.count(1);
    }

    private static void openAll() {
        tested = "9 openAll";
        PairNames x = with("abcabcabd");
        x.nameAll();
        due("parts", x.openAll(), 9);
        due("row", row(x), "abcabcabd");
        due("names", names(x), "");
        due("none is let go", x.count(7), 0);
        due("without names", x.openAll(), 9);
        due("saved states", x.count(8), 4);
        due("an empty row", new PairNames().openAll(), 0);
        PairNames just = with("a9a9a9a9a9a9a9a");
        just.nameAll();
        due("64 signs", just.openAll(), 64);
        due("text", row(just), "a".repeat(64));
        just.nameAll();
        just.add(1);
        refused("65 signs", just, ISE, just::openAll);
        PairNames deep = doubled(16);
        refused("131072 signs", deep, ISE, deep::openAll);
    }

    private static void set() {
        tested = "10 set";
        PairNames x = new PairNames();
        due("set(0, 9)", x.set(0, 9), 2);
        due("set(0, 2)", x.set(0, 2), 9);
        due("set(1, 1)", x.set(1, 1), 2);
        due("set(1, 9)", x.set(1, 9), 1);
        due("set(1, 9) again", x.set(1, 9), 9);
        due("saved states", x.count(8), 5);
        refused("set(0, 1)", x, IAE, () -> x.set(0, 1));
        refused("set(0, 10)", x, IAE, () -> x.set(0, 10));
        refused("set(1, 0)", x, IAE, () -> x.set(1, 0));
        refused("set(1, 10)", x, IAE, () -> x.set(1, 10));
        refused("set(2, 2)", x, IOOBE, () -> x.set(2, 2));
        refused("set(-1, 2)", x, IOOBE, () -> x.set(-1, 2));
        refused("no setting comes before the value", x, IOOBE, () -> x.set(2, 0));
        for (int extreme : EXTREMES) {
            refused("set(0, " + extreme + ")", x, IAE, () -> x.set(0, extreme));
            refused("set(" + extreme + ", 2)", x, IOOBE, () -> x.set(extreme, 2));
        }
        due("setting(0)", x.setting(0), 2);
        due("setting(1)", x.setting(1), 9);
        x.undo();
        x.undo();
        due("undone", x.setting(1), 1);
    }

    private static void append() {
        tested = "11 append";
        PairNames x = new PairNames();
        due("append(33)", x.append(33), 1);
        due("append(126)", x.append(126), 2);
        due("nothing is saved", x.count(8), 0);
        refused("append(32)", x, IAE, () -> x.append(32));
        refused("append(127)", x, IAE, () -> x.append(127));
        for (int extreme : EXTREMES) {
            refused("append(" + extreme + ")", x, IAE, () -> x.append(extreme));
        }
        for (int i = 3; i <= 60; i++) {
            due("append", x.append('a'), i);
        }
        refused("60 characters", x, ISE, () -> x.append('a'));
        refused("the code comes before a full buffer", x, IAE, () -> x.append(127));
        due("length", x.clearBuffer(), 60);
        due("empty again", x.append('a'), 1);
    }

    private static void clearBuffer() {
        tested = "12 clearBuffer";
        PairNames x = with("ab");
        due("empty", x.clearBuffer(), 0);
        type(x, "zz~");
        due("three", x.clearBuffer(), 3);
        due("empty again", x.clearBuffer(), 0);
        due("nothing is saved", x.count(8), 1);
        due("row", row(x), "ab");
    }

    private static void firstError() {
        tested = "13 firstError";
        String[] texts = {"", "a", "h", "a2", "a9h9", "abc", "a2b", "a22", "a1", "a0", "2", "i", "A", "`",
            "ab3c33", "ab:", "a/", "a2!x", "h9h9h9i", "g8f7e6d5c4b3a2"};
        int[] errors = {0, 1, 1, 2, 4, 3, 3, 2, 1, 1, 0, 0, 0, 0, 5, 2, 1, 2, 6, 14};
        for (int i = 0; i < texts.length; i++) {
            PairNames x = new PairNames();
            type(x, texts[i]);
            due("of '" + texts[i] + "'", x.firstError(), errors[i]);
            due("the buffer stays", x.clearBuffer(), texts[i].length());
        }
        PairNames full = new PairNames();
        type(full, "a9".repeat(30));
        due("a text of any length", full.firstError(), 60);
        PairNames all = new PairNames();
        for (int code = 33; code <= 126; code++) {
            all.append('c');
            all.append(code);
            boolean fits = code >= 'a' && code <= 'h' || code >= '2' && code <= '9';
            due("behind a letter: " + code, all.firstError(), fits ? 2 : 1);
            all.clearBuffer();
        }
    }

    private static void undo() {
        tested = "14 undo";
        PairNames x = new PairNames();
        refused("nothing saved", x, ISE, x::undo);
        grow(x, "abab");
        x.name();
        x.set(0, 3);
        x.set(1, 4);
        x.letGo();
        type(x, "c");
        due("states", x.count(8), 5);
        due("letGo", x.undo(), 4);
        due("names again", row(x), "[8][8]");
        due("let go so far", x.count(7), 0);
        due("set", x.undo(), 3);
        due("setting(1)", x.setting(1), 2);
        due("set", x.undo(), 2);
        due("setting(0)", x.setting(0), 2);
        due("name", x.undo(), 1);
        due("row", row(x), "abab");
        due("names", names(x), "");
        due("steps so far", x.count(6), 0);
        due("grow", x.undo(), 0);
        due("row", row(x), "");
        due("the buffer is not restored", x.clearBuffer(), 1);
        refused("nothing left", x, ISE, x::undo);
        for (int i = 0; i < 8; i++) {
            x.add(i);
            due("at most 6", x.count(8), Math.min(i + 1, 6));
        }
        for (int left = 5; left >= 0; left--) {
            due("left", x.undo(), left);
            due("row", row(x), "abcdefgh".substring(0, left + 2));
        }
        refused("the oldest are dropped", x, ISE, x::undo);
        x.add(7);
        x.undo();
        x.add(6);
        due("saved after an undo", x.undo(), 0);
        due("row", row(x), "ab");
        unchangedIsSaved();
    }

    private static void unchangedIsSaved() {
        PairNames x = new PairNames();
        x.name();
        x.nameAll();
        x.letGo();
        x.openAll();
        x.cut(0);
        x.set(0, 2);
        due("six calls that change nothing", x.count(8), 6);
        x.part(0);
        x.sign(0);
        x.about(0, 0);
        x.pair(0, 0);
        x.next(0);
        x.times(0);
        x.ifNamed(0);
        x.bestOften();
        x.saved();
        x.digest();
        due("looks are not saved", x.count(8), 6);
        due("undo", x.undo(), 5);
    }

    private static void part() {
        tested = "15 part";
        PairNames x = with("abab");
        x.name();
        x.add(7);
        due("part(0)", x.part(0), 8);
        due("part(1)", x.part(1), 8);
        due("part(2)", x.part(2), 7);
        due("part(3)", x.part(3), -1);
        due("part(63)", x.part(63), -1);
        due("part(64)", x.part(64), -1);
        due("part(MAX)", x.part(Integer.MAX_VALUE), -1);
        refused("part(-1)", x, IAE, () -> x.part(-1));
        refused("part(MIN)", x, IAE, () -> x.part(Integer.MIN_VALUE));
        x.cut(1);
        due("what was cut", x.part(1), -1);
    }

    private static void sign() {
        tested = "16 sign";
        PairNames x = with("abcabcabd");
        x.nameAll();
        due("text", text(x), "abcabcabd");
        due("sign(8)", x.sign(8), 3);
        due("sign(9)", x.sign(9), -1);
        due("sign(MAX)", x.sign(Integer.MAX_VALUE), -1);
        refused("sign(-1)", x, IAE, () -> x.sign(-1));
        refused("sign(MIN)", x, IAE, () -> x.sign(Integer.MIN_VALUE));
        due("an empty row", new PairNames().sign(0), -1);
        PairNames deep = doubled(16);
        deep.add(5);
        due("deep", deep.sign(131071), 0);
        due("behind it", deep.sign(131072), 5);
        due("the end", deep.sign(131073), -1);
    }

    private static void about() {
        tested = "17 about";
        PairNames x = with("abcabcabcb");
        x.nameAll();
        x.add(8);
        due("row", row(x), "[9][9][9]b[8]");
        due("names", names(x), "8=ab 9=[8]c");
        properties(x, 8, 0, 1, 2, 1, 1, 2, 0, 1);
        properties(x, 9, 8, 2, 3, 3, 2, 3, 0, 2);
        properties(x, 0, -1, -1, 1, 0, 0, 1, 0, 0);
        properties(x, 1, -1, -1, 2, 1, 0, 1, 1, 1);
        properties(x, 7, -1, -1, 0, 0, 0, 1, 7, 7);
        refused("about(10, 0)", x, IOOBE, () -> x.about(10, 0));
        refused("about(24, 0)", x, IOOBE, () -> x.about(24, 0));
        refused("about(-1, 0)", x, IOOBE, () -> x.about(-1, 0));
        refused("about(8, 8)", x, IAE, () -> x.about(8, 8));
        refused("about(0, -1)", x, IAE, () -> x.about(0, -1));
        refused("no part comes before what", x, IOOBE, () -> x.about(10, 8));
        for (int extreme : EXTREMES) {
            refused("about(" + extreme + ", 0)", x, IOOBE, () -> x.about(extreme, 0));
            refused("about(0, " + extreme + ")", x, IAE, () -> x.about(0, extreme));
        }
        PairNames twice = doubled(2);
        due("both parts of one pair", twice.about(8, 2), 2);
        due("none of these in the row", twice.about(8, 3), 0);
        PairNames deep = doubled(16);
        properties(deep, 23, 22, 22, 2, 2, 16, 65536, 0, 0);
        PairNames lower = with("ababcdcd");
        lower.nameAll();
        lower.add(9);
        lower.cut(5);
        lower.set(1, 3);
        lower.letGo();
        due("8 is free", names(lower), "9=cd");
        PairNames order = with("ababcdcdcd");
        order.nameAll();
        due("names", names(order), "8=cd 9=ab");
        order.cut(2);
        due("row", row(order), "[9][9]");
        grow(order, "e");
        order.add(9);
        due("no pair twice", order.name(), -1);
        grow(order, "e");
        due("[9]e twice, and 8 is free", order.name(), 8);
        properties(order, 8, 9, 4, 2, 2, 2, 3, 0, 4);
        due("times of b through the lower name", order.times(1), 3);
    }

    private static void properties(PairNames x, int part, int... want) {
        for (int what = 0; what < want.length; what++) {
            due("about(" + part + ", " + what + ")", x.about(part, what), want[what]);
        }
    }

    private static void pair() {
        tested = "18 pair";
        int[] twins = {0, 0, 1, 1, 2, 2, 3, 3, 4, 4};
        for (int parts = 1; parts <= 9; parts++) {
            due("aa in " + parts + " a", with("a" + (parts > 1 ? parts : "")).pair(0, 0), twins[parts]);
        }
        PairNames x = with("a3ba3bab");
        due("aa", x.pair(0, 0), 2);
        due("ab", x.pair(0, 1), 3);
        due("ba", x.pair(1, 0), 2);
        due("bb", x.pair(1, 1), 0);
        due("hh", x.pair(7, 7), 0);
        x.name();
        due("row", row(x), "aa[8]aa[8][8]");
        due("a and a name", x.pair(0, 8), 2);
        due("a name twice", x.pair(8, 8), 1);
        due("no occurrence is left", x.pair(0, 1), 0);
        refused("pair(9, 0)", x, IOOBE, () -> x.pair(9, 0));
        refused("pair(0, 9)", x, IOOBE, () -> x.pair(0, 9));
        refused("pair(-1, 0)", x, IOOBE, () -> x.pair(-1, 0));
        refused("pair(0, -1)", x, IOOBE, () -> x.pair(0, -1));
        refused("pair(24, 24)", x, IOOBE, () -> x.pair(24, 24));
        for (int extreme : EXTREMES) {
            refused("pair(" + extreme + ", 0)", x, IOOBE, () -> x.pair(extreme, 0));
            refused("pair(0, " + extreme + ")", x, IOOBE, () -> x.pair(0, extreme));
        }
        due("an empty row", new PairNames().pair(0, 0), 0);
        due("a after its own pair", with("a2b2a2").pair(0, 0), 2);
    }

    private static void next() {
        tested = "19 next";
        PairNames x = with("cbcbcbabab");
        nextIs(x, 2, 1, 3, 8);
        x.name();
        nextIs(x, 0, 1, 2, 9);
        x.name();
        nextIs(x, -1, -1, -1, -1);
        nextIs(new PairNames(), -1, -1, -1, -1);
        nextIs(with("a"), -1, -1, -1, -1);
        PairNames again = with("abab");
        again.name();
        grow(again, "cababab");
        nextIs(again, 0, 1, 3, 8);
        again.set(0, 3);
        nextIs(again, 0, 1, 3, 8);
        again.set(0, 4);
        nextIs(again, -1, -1, -1, -1);
        PairNames full = sixteenNames();
        full.cut(32);
        grow(full, "hghghg");
        nextIs(full, -1, -1, -1, -1);
        due("nothing is saved", x.count(8), 3);
        refused("next(-1)", x, IAE, () -> x.next(-1));
        refused("next(4)", x, IAE, () -> x.next(4));
        for (int extreme : EXTREMES) {
            refused("next(" + extreme + ")", x, IAE, () -> x.next(extreme));
        }
    }

    private static void nextIs(PairNames x, int... want) {
        for (int what = 0; what < want.length; what++) {
            due("next(" + what + ")", x.next(what), want[what]);
        }
    }

    private static void count() {
        tested = "20 count";
        PairNames x = with("abcabcabd");
        counts(x, 9, 0, 9, 4, 0, 9, 0, 0, 1);
        x.nameAll();
        counts(x, 4, 2, 9, 3, 2, 8, 2, 0, 2);
        x.set(1, 4);
        x.letGo();
        counts(x, 9, 0, 9, 4, 0, 9, 2, 2, 4);
        x.undo();
        counts(x, 4, 2, 9, 3, 2, 8, 2, 0, 3);
        x.openAll();
        counts(x, 9, 0, 9, 4, 0, 9, 2, 0, 4);
        PairNames deep = doubled(16);
        while (deep.count(0) < 64) {
            deep.add(23);
        }
        counts(deep, 64, 16, 4194304, 1, 16, 96, 16, 0, 6);
        refused("count(-1)", x, IAE, () -> x.count(-1));
        refused("count(9)", x, IAE, () -> x.count(9));
        for (int extreme : EXTREMES) {
            refused("count(" + extreme + ")", x, IAE, () -> x.count(extreme));
        }
    }

    private static void counts(PairNames x, int... want) {
        for (int what = 0; what < want.length; what++) {
            due("count(" + what + ")", x.count(what), want[what]);
        }
    }

    private static void times() {
        tested = "21 times";
        PairNames x = with("abcabcabd");
        x.nameAll();
        int[] want = {3, 3, 2, 1, 0, 0, 0, 0};
        for (int sign = 0; sign < 8; sign++) {
            due("times(" + sign + ")", x.times(sign), want[sign]);
        }
        refused("times(8) of a name", x, IOOBE, () -> x.times(8));
        refused("times(-1)", x, IOOBE, () -> x.times(-1));
        for (int extreme : EXTREMES) {
            refused("times(" + extreme + ")", x, IOOBE, () -> x.times(extreme));
        }
        due("deep", doubled(16).times(0), 131072);
        due("an empty row", new PairNames().times(0), 0);
    }

    private static void setting() {
        tested = "22 setting";
        PairNames x = new PairNames();
        due("setting(0)", x.setting(0), 2);
        due("setting(1)", x.setting(1), 2);
        x.set(0, 5);
        due("setting(0)", x.setting(0), 5);
        due("setting(1)", x.setting(1), 2);
        refused("setting(2)", x, IOOBE, () -> x.setting(2));
        refused("setting(-1)", x, IOOBE, () -> x.setting(-1));
        for (int extreme : EXTREMES) {
            refused("setting(" + extreme + ")", x, IOOBE, () -> x.setting(extreme));
        }
    }

    private static void ifNamed() {
        tested = "23 ifNamed";
        PairNames x = with("abcabcabd");
        ifNamedIs(x, 2, 4, 8, 2);
        due("nothing is changed", row(x), "abcabcabd");
        due("nothing is saved", x.count(8), 1);
        x.name();
        ifNamedIs(x, 1, 4, 8, 2);
        x.set(0, 3);
        ifNamedIs(x, 0, 6, 8, 1);
        ifNamedIs(new PairNames(), 0, 0, 0, 0);
        refused("ifNamed(-1)", x, IAE, () -> x.ifNamed(-1));
        refused("ifNamed(4)", x, IAE, () -> x.ifNamed(4));
        for (int extreme : EXTREMES) {
            refused("ifNamed(" + extreme + ")", x, IAE, () -> x.ifNamed(extreme));
        }
    }

    private static void ifNamedIs(PairNames x, int... want) {
        for (int what = 0; what < want.length; what++) {
            due("ifNamed(" + what + ")", x.ifNamed(what), want[what]);
        }
    }

    private static void bestOften() {
        tested = "24 bestOften";
        due("an empty row", new PairNames().bestOften(), 2);
        // A name for k occurrences takes 2 and saves k, and a greater setting only stops earlier.
        due("4 with 2, 4 with more: the lowest one", with("abab").bestOften(), 2);
        due("7 with 2 to 4, 9 with more", with("ababcabab").bestOften(), 2);
        String[] texts = {"a9", "ab", "abab", "abcabc", "a9a9a9a9a9a9a9a", "abcabdabe", "a9b9a9b9", "abcdabceabf",
            "a4b4", "abacadaeafagah", "bcbcbcdcdcdcbd", "ab3ab3cab3"};
        for (String text : texts) {
            due("of " + text, with(text).bestOften(), bySetting(text));
        }
        PairNames x = with("abab");
        x.set(0, 7);
        due("the setting does not matter", x.bestOften(), bySetting("abab"));
        due("it stays", x.setting(0), 7);
        due("row", row(x), "abab");
        due("nothing is saved", x.count(8), 2);
    }

    private static int bySetting(String text) {
        int best = 2;
        int least = Integer.MAX_VALUE;
        for (int often = 2; often <= 9; often++) {
            PairNames x = with(text);
            x.set(0, often);
            x.nameAll();
            if (x.count(5) < least) {
                least = x.count(5);
                best = often;
            }
        }
        return best;
    }

    private static void saved() {
        tested = "25 saved";
        due("an empty row", new PairNames().saved(), 0.0);
        PairNames x = with("abcabcabd");
        due("no names", x.saved(), 0.0);
        x.nameAll();
        due("8 of 9", x.saved(), 1.0 - 8.0 / 9);
        x.cut(1);
        due("below 0", x.saved(), -0.5);
        PairNames deep = doubled(16);
        due("deep", deep.saved(), 1.0 - 34.0 / 131072);
        deep.cut(0);
        due("without parts again", deep.saved(), 0.0);
    }

    private static void digest() {
        tested = "26 digest";
        digestOf("a new object", PairNames::new, "");
        digestOf("with a buffer", PairNames::new, "ab!");
        digestOf("a text", () -> with("abcabcabd"), "");
        digestOf("one name", () -> named("abcabcabd", 1), "h2");
        digestOf("all names", () -> named("abcabcabd", 3), "");
        digestOf("a share below 0", () -> cutNames(), "");
        digestOf("deep", () -> doubled(16), "z".repeat(60));
        digestOf("64 parts", () -> with("a9a9a9a9a9a9a9a"), "a");
        PairNames x = with("abab");
        due("twice alike", x.digest(), x.digest());
    }

    private static PairNames named(String text, int calls) {
        PairNames x = with(text);
        for (int i = 0; i < calls; i++) {
            x.name();
        }
        return x;
    }

    private static PairNames cutNames() {
        PairNames x = named("abcabcabd", 2);
        x.cut(1);
        return x;
    }

    private static void digestOf(String what, Maker maker, String buffer) {
        PairNames x = maker.make();
        type(x, buffer);
        due(what, x.digest(), hash(maker.make(), buffer).longValue());
    }
}
