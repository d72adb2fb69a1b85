import java.io.IOException;
import java.math.BigInteger;
import java.nio.file.Files;
import java.nio.file.Path;
import java.util.List;
import java.util.Set;
import java.util.TreeSet;

/**
 * The edges, sentence by sentence: says(..) quotes a sentence of the document, and what follows up
 * to the next one is its test. At the end each sentence of the promises and of the terms must have
 * been quoted.
 */
public final class EdgeTests extends Checks {

    /** The number that stands for the terms, where promises have theirs. */
    private static final int TERMS = 0;

    /** Sentences of the terms that name no edge. */
    private static final Set<String> NO_EDGE = Set.of(
        "0: All numbers are integers, but for a share.",
        "0: The uses of a name are how many times it is in the row and in the pairs of other names together.",
        "0: The length of a part is the length of its text.");

    private static final Set<String> said = new TreeSet<>();
    private static int promise;
    private static int checksBefore = -1;

    public static void main(String[] args) throws IOException {
        rows();
        pairsAndNaming();
        names();
        settingsAndTexts();
        undoTerms();
        exceptions();
        newObject();
        grow();
        add();
        cut();
        open();
        name();
        nameAll();
        letGo();
        openAll();
        set();
        append();
        clearBuffer();
        firstError();
        undo();
        part();
        sign();
        about();
        pair();
        next();
        count();
        times();
        setting();
        ifNamed();
        bestOften();
        saved();
        digest();
        eachSentenceIsSaid();
        finish();
    }

    // ---- the harness

    private static void says(String sentence) {
        if (checks() == checksBefore) {
            due("a check behind the sentence", "none", "one");
        }
        tested = promise + ": " + sentence;
        said.add(tested);
        checksBefore = checks();
    }

    private static void returns(String what) {
        says("Returns " + what);
    }

    private static void eachSentenceIsSaid() throws IOException {
        Set<String> due = sentences();
        due.removeAll(NO_EDGE);
        tested = "the document";
        for (String sentence : due) {
            due("a test for '" + sentence + "'", said.contains(sentence), true);
        }
        for (String sentence : said) {
            due("the document says '" + sentence + "'", due.contains(sentence), true);
        }
    }

    /** The lines of each promise and the sentences of the terms, the promise's number before them. */
    private static Set<String> sentences() throws IOException {
        Set<String> all = new TreeSet<>();
        int section = -1;
        for (String line : Files.readAllLines(Path.of("../shared/DOC.md"))) {
            if (line.startsWith("## ")) {
                section = line.startsWith("## Promise ") ? Integer.parseInt(line.replaceAll("\\D", "")) : -1;
                section = line.equals("## Terms") ? TERMS : section;
            } else if (section == TERMS && line.endsWith(".") && !line.startsWith("Ahead of")) {
                for (String sentence : line.split("(?<=\\.) ")) {
                    all.add(TERMS + ": " + sentence);
                }
            } else if (section > TERMS && !line.isEmpty()) {
                all.add(section + ": " + line.replaceFirst("^`[^`]*`: ", ""));
            }
        }
        return all;
    }

    /** The call takes the least and the greatest value, and refuses the next ones and the farthest. */
    private static void takes(int least, int greatest, String beyond, Maker maker, Numbered call) {
        for (int value : new int[] {least, greatest}) {
            String answer = answer(() -> call.on(maker.make(), value));
            due("the end " + value + " (" + answer + ") is taken", !answer.endsWith("Exception"), true);
        }
        for (int value : new int[] {least - 1, greatest + 1, Integer.MIN_VALUE, Integer.MAX_VALUE}) {
            refused("beyond: " + value, beyond, maker, x -> call.on(x, value));
        }
    }

    /** A call of the face with a number. */
    private interface Numbered {
        Object on(PairNames x, int value);
    }

    /** The call is no change: all is as before, and no state is saved. */
    private static void changesNothing(Maker maker, Call call) {
        PairNames x = maker.make();
        String answer = answer(() -> call.on(x));
        due("the answer is no exception: " + answer, !answer.endsWith("Exception"), true);
        due("afterwards", whole(x), whole(maker.make()));
    }

    /** The call saves one state, and undo brings back what was there before it. */
    private static void saves(String what, Maker maker, Call call) {
        PairNames x = maker.make();
        int states = x.count(8);
        String before = look(x);
        String answer = answer(() -> call.on(x));
        due(what + " is no exception: " + answer, !answer.endsWith("Exception"), true);
        due("saved states behind " + what, x.count(8), states + 1);
        due("left by undo of " + what, x.undo(), states);
        due("undo of " + what, look(x), before);
    }

    // ---- objects, each made by the same calls

    private static PairNames empty() {
        return new PairNames();
    }

    /** 64 parts, none of them a name. */
    private static PairNames fullOfSigns() {
        return with("a9b9c9d9e9f9g9h");
    }

    /** 64 parts, names at the places 0 and 1: 8 = ab. */
    private static PairNames fullWithNames() {
        PairNames x = with("abab");
        x.name();
        grow(x, "c9d9e9f9g9h9c8");
        return x;
    }

    /** 63 parts, names at the places 0 and 1: 8 = ab. */
    private static PairNames almostFull() {
        PairNames x = fullWithNames();
        x.cut(63);
        return x;
    }

    /** [9][9][8]: 8 = ab, 9 = c[8]; two saved states. */
    private static PairNames twoNames() {
        PairNames x = with("cabcabab");
        x.nameAll();
        return x;
    }

    /** Names 8 to 23, each of depth one more than the one before, and 64 parts of the deepest. */
    private static PairNames deepest() {
        PairNames x = doubled(16);
        while (x.count(0) < 64) {
            x.add(23);
        }
        return x;
    }

    private static PairNames typed(String buffer) {
        PairNames x = new PairNames();
        type(x, buffer);
        return x;
    }

    // ---- the terms

    private static void rows() {
        promise = TERMS;
        says("A sign is 0 to 7, written as the letters a to h.");
        due("the letters", row(with("abcdefgh")), "abcdefgh");
        due("a is 0", with("a").part(0), 0);
        due("h is 7", with("h").part(0), 7);
        takes(0, 7, IOOBE, EdgeTests::empty, (x, sign) -> x.add(sign));
        refused("the letter before a", IAE, () -> typed("`"), x -> x.grow());
        refused("the letter behind h", IAE, () -> typed("i"), x -> x.grow());

        says("There are at most 16 names, numbered 8 to 23; a name stands for a pair of two parts, "
            + "each a sign or another name.");
        PairNames all = sixteenNames();
        due("16 names", all.count(1), 16);
        due("the least and the greatest", all.about(8, 5) + all.about(23, 5), 4);
        refused("name 24", IOOBE, EdgeTests::sixteenNames, x -> x.about(24, 0));
        refused("name 7 + 17 in the row", IOOBE, EdgeTests::sixteenNames, x -> x.add(24));
        grow(all, "hghg");
        due("a 17th name", all.name(), PairNames.NONE);
        due("names", all.count(1), 16);
        due("sign and sign, sign and name", names(twoNames()), "8=ab 9=c[8]");
        due("name and name", names(doubled(2)), "8=aa 9=[8][8]");

        says("There is a row of at most 64 parts; what it stands for is its text: each name in it is "
            + "replaced by its pair, again and again, until there are signs alone.");
        due("64 parts", fullOfSigns().count(0), 64);
        refused("65 parts", ISE, EdgeTests::fullOfSigns, x -> x.add(0));
        due("a text of 64 * 65536 signs", deepest().count(2), 4194304);
        due("the last of them", deepest().sign(4194303), 0);
        due("the text of names of names", text(twoNames()), "cabcabab");
        due("the text of an empty row", text(empty()), "");

        says("The depth of a sign is 0, that of a name 1 more than the greater depth of both parts of its pair.");
        due("of signs", with("ah").about(0, 4) + with("ah").about(7, 4), 0);
        due("of two signs", twoNames().about(8, 4), 1);
        due("the second part is deeper", twoNames().about(9, 4), 2);
        PairNames x = with("abcabc");
        x.nameAll();
        due("8=ab 9=[8]c", names(x), "8=ab 9=[8]c");
        due("the first part is deeper", x.about(9, 4), 2);
        due("the greatest depth", deepest().about(23, 4), 16);
    }

    private static void pairsAndNaming() {
        promise = TERMS;
        says("A pair of parts occurs in the row where both stand side by side, in their order.");
        due("in their order", with("abcab").pair(0, 1), 2);
        due("not in the other one", with("abcab").pair(1, 0), 0);
        due("not side by side", with("abcab").pair(0, 2), 0);
        due("not round the end", with("bca").pair(0, 1), 0);
        due("at the first and the last place", with("abcdab").pair(0, 1), 2);
        due("one part", with("a").pair(0, 0), 0);
        due("no part", empty().pair(0, 0), 0);

        says("Occurrences are counted from left to right, without overlap: of two that share a part only the "
            + "left one counts.");
        for (int parts = 2; parts <= 9; parts++) {
            due("aa in a" + parts, with("a" + parts).pair(0, 0), parts / 2);
        }
        due("aa in 64 a", with("a9a9a9a9a9a9a9a").pair(0, 0), 32);
        due("aa in 63 a", with("a9a9a9a9a9a9a9").pair(0, 0), 31);
        due("aab: of aa and ab both count", with("a2b").pair(0, 0) + with("a2b").pair(0, 1), 2);
        PairNames odd = with("ba5b");
        odd.name();
        due("the left ones are replaced", row(odd), "b[8][8]ab");
        PairNames two = with("a3ba3");
        two.name();
        due("in each run of a anew", row(two), "[8]ab[8]a");
        shortRows("");

        says("A step of naming: of all pairs that occur at least setting 0 times, the one that occurs most, of several "
            + "the one whose first part is the lowest, of these the one whose second part is the lowest, gets a name: "
            + "the one that already stands for this pair, if there is one, otherwise the lowest one that there is not; "
            + "then all its occurrences (those that count) are replaced by the name.");
        steps();

        says("If there is no such pair, or no name for it, there is no step (a pair that occurs less often is not "
            + "asked then).");
        due("no part", empty().name(), PairNames.NONE);
        due("one part", with("a").name(), PairNames.NONE);
        due("two parts", with("a2").name(), PairNames.NONE);
        due("three like parts", with("a3").name(), PairNames.NONE);
        due("four like parts", with("a4").name(), 8);
        PairNames full = sixteenNames();
        grow(full, "hghghgabab");
        due("hg has no name, and ab is not asked", full.name(), PairNames.NONE);
        due("next", full.next(0), PairNames.NONE);
        grow(full, "ab");
        due("hg and ab three times, ab is lower", full.name(), 9);
        PairNames free = sixteenNames();
        free.cut(30);
        grow(free, "hghg");
        due("with 15 names there is one", free.name(), 23);
    }

    /** Each row of a, b and c up to seven parts that begins so, with places that String finds. */
    private static void shortRows(String text) {
        if (!text.isEmpty()) {
            PairNames x = with(text);
            String best = "";
            for (String pair : new String[] {"aa", "ab", "ac", "ba", "bb", "bc", "ca", "cb", "cc"}) {
                int times = occurrences(text, pair);
                due(pair + " in " + text, x.pair(pair.charAt(0) - 'a', pair.charAt(1) - 'a'), times);
                best = times > Math.max(1, occurrences(text, best)) ? pair : best;
            }
            due("how often the next one occurs in " + text, x.next(2), best.isEmpty() ? -1 : occurrences(text, best));
            x.name();
            due("a step in " + text, row(x), best.isEmpty() ? text : text.replace(best, "[8]"));
        }
        for (char letter = 'a'; letter <= 'c' && text.length() < 7; letter++) {
            shortRows(text + letter);
        }
    }

    private static int occurrences(String text, String pair) {
        int times = 0;
        int at = pair.isEmpty() ? -1 : text.indexOf(pair);
        while (at >= 0) {
            times++;
            at = text.indexOf(pair, at + 2);
        }
        return times;
    }

    private static void steps() {
        PairNames least = with("abcab");
        due("twice with 2", least.name(), 8);
        for (int often = 3; often <= 9; often++) {
            PairNames x = new PairNames();
            for (int i = 0; i < often - 1; i++) {
                x.add(0);
                x.add(1);
                x.add(2 + i % 6);
            }
            x.set(0, often);
            due("one less than " + often, x.name(), PairNames.NONE);
            x.add(0);
            x.add(1);
            due("exactly " + often, x.name(), 8);
            due("all are replaced", x.about(8, 3), often);
        }
        due("most often, not the lowest", namesAfterOne("ababdcdcdc"), "8=dc");
        due("the lowest first part", namesAfterOne("cdecdfbhgbh"), "8=bh");
        due("the lowest second part", namesAfterOne("bdfbdgbcfbc"), "8=bc");
        due("the first part before the second", namesAfterOne("bafbagahfah"), "8=ah");
        PairNames known = with("dcdc");
        known.name();
        grow(known, "abab");
        due("the lowest that there is not", known.name(), 9);
        grow(known, "hdcdcdc");
        due("the one that already stands for it", known.name(), 8);
        due("row", row(known), "[8][8][9][9]h[8][8][8]");
        known.cut(4);
        grow(known, "efef");
        known.name();
        due("names", names(known), "8=dc 9=ab 10=ef");
        known.open(3);
        known.open(2);
        due("9 is free", names(known), "8=dc 10=ef");
        grow(known, "ghghgh");
        due("9 is the lowest that there is not", known.name(), 9);
        due("it stands for gh", names(known), "8=dc 9=gh 10=ef");
        PairNames last = sixteenNames();
        due("the greatest name stands for its pair", last.about(23, 0) * 10 + last.about(23, 1), 17);
        PairNames whole = with("a9a9a9a9a9a9a9a");
        due("a full row", whole.name(), 8);
        due("is replaced to its last part", whole.count(0), 32);
    }

    private static String namesAfterOne(String text) {
        PairNames x = with(text);
        x.name();
        return names(x);
    }

    private static void names() {
        promise = TERMS;
        says("A name that there is, is used in the row or in the pair of another name at least once.");
        PairNames x = twoNames();
        x.cut(1);
        due("one use in the row, one in a pair", x.about(9, 2) * 10 + x.about(8, 2), 11);
        due("8 is not in the row", x.about(8, 3), 0);
        x.open(0);
        due("9 has no use", names(x), "8=ab");
        x.open(1);
        due("8 has no use", names(x), "");

        says("No name stands for itself, also not by way of others.");
        PairNames deep = deepest();
        for (int name = 8; name <= 23; name++) {
            due("both parts of " + name + " are less deep", Math.max(deep.about(deep.about(name, 0), 4),
                deep.about(deep.about(name, 1), 4)) < deep.about(name, 4), true);
        }
        PairNames low = lowNameOfHigh();
        due("a low name of a higher one", names(low), "8=[9]e 9=ab");
        due("its text ends", text(low), "abeabe");

        says("A name is let go if its uses are fewer than setting 1: each use of it is replaced by its pair, and the "
            + "name is no more.");
        for (int uses = 2; uses <= 9; uses++) {
            due("with " + uses + " uses for " + uses, letGoOf(uses, uses), 0);
            due("with " + (uses - 1) + " uses for " + uses, letGoOf(uses - 1, uses), 1);
        }
        due("with 1 use for 1", letGoOf(1, 1), 0);
        PairNames three = with("ababab");
        three.name();
        three.set(1, 4);
        three.letGo();
        due("each use", row(three), "ababab");
        due("the name is no more", answer(() -> three.about(8, 0)), IOOBE);

        says("A use in the row makes the row longer by 1; if the row would have more than 64 parts, the name is kept.");
        due("to 63 parts", letGoInRow(61), "1 gone, 63 parts");
        due("to 64 parts", letGoInRow(62), "1 gone, 64 parts");
        due("not to 65 parts", letGoInRow(63), "0 gone, 63 parts");
        due("not from a full row", letGoInRow(64), "0 gone, 64 parts");

        says("A use in the pair of another name cannot be replaced: a name that is used there is kept, too.");
        PairNames kept = twoNames();
        kept.cut(2);
        due("8 has one use, in 9", kept.letGo(), 0);
        due("names", names(kept), "8=ab 9=c[8]");
        PairNames then = twoNames();
        then.cut(1);
        due("9 goes, and then 8", then.letGo(), 2);
    }

    /** 8 = [9]e, 9 = ab: the row is [8][8]. */
    private static PairNames lowNameOfHigh() {
        PairNames x = with("ababcdcdcd");
        x.nameAll();
        x.cut(2);
        grow(x, "e");
        x.add(9);
        x.cut(1);
        grow(x, "e");
        x.add(9);
        grow(x, "e");
        x.name();
        return x;
    }

    /** How many names are let go of one that is in the row so often. */
    private static int letGoOf(int uses, int setting) {
        PairNames x = with("abab");
        x.name();
        while (x.count(0) < uses) {
            x.add(8);
        }
        x.cut(uses);
        x.set(1, setting);
        return x.letGo();
    }

    /** A name with two uses in a row of so many parts. */
    private static String letGoInRow(int parts) {
        PairNames x = with("abab");
        x.name();
        while (x.count(0) < parts) {
            x.add(7);
        }
        x.set(1, 3);
        return x.letGo() + " gone, " + x.count(0) + " parts";
    }

    private static void settingsAndTexts() {
        promise = TERMS;
        says("0: how often a pair must occur, 2 to 9, at first 2; 1: how often a name must be used, 1 to 9, at first 2.");
        due("at first", empty().setting(0) * 10 + empty().setting(1), 22);
        takes(2, 9, IAE, EdgeTests::empty, (x, value) -> x.set(0, value));
        takes(1, 9, IAE, EdgeTests::empty, (x, value) -> x.set(1, value));

        says("The buffer has at most 60 characters.");
        due("60", typed("a".repeat(60)).clearBuffer(), 60);
        refused("the 61st", ISE, () -> typed("a".repeat(60)), x -> x.append('a'));

        says("A text as a text is one or more letters a to h, each perhaps with a number behind it, 2 to 9, which tells "
            + "how often it stands there.");
        refused("no letter", IAE, EdgeTests::empty, x -> x.grow());
        due("one letter", row(with("a")), "a");
        due("2 and 9", row(with("a2h9")), "aahhhhhhhhh");
        due("with and without a number", row(with("ab3ab")), "abbbab");
        due("60 letters", with("ab".repeat(30)).count(0), 60);
        for (String wrong : new String[] {"a1", "a0", "a:", "a/", "2", "2a", "a22", "a10", "`", "i", "A", "H", "a!", "~"}) {
            refused("'" + wrong + "'", IAE, () -> typed(wrong), x -> x.grow());
        }

        says("The buffer is read from left to right; a character is a syntax error if no text as a text, of any length, "
            + "begins with the characters before it and this character.");
        due("the first of two", typed("ab0c!").firstError(), 2);
        due("the first character", typed("9a").firstError(), 0);
        due("the last of 60", typed("a".repeat(59) + "z").firstError(), 59);
        due("a number at the last place", typed("a".repeat(59) + "9").firstError(), 60);
        due("270 signs are too long for the row, but no error", typed("a9".repeat(30)).firstError(), 60);
        due("a letter behind the error is not looked at", typed("a22b").firstError(), 2);
        PairNames full = fullOfSigns();
        type(full, "a");
        due("a full row is no error", full.firstError(), 1);
    }

    private static void undoTerms() {
        promise = TERMS;
        says("Each method that is marked \"undoable\" and does not throw an exception saves the state from before it "
            + "(also if it changes nothing): all, also what is counted so far, but the buffer and the saved states.");
        saves("add", EdgeTests::twoNames, x -> x.add(8));
        saves("cut", EdgeTests::twoNames, x -> x.cut(1));
        saves("a cut of all", EdgeTests::twoNames, x -> x.cut(0));
        saves("a cut of nothing", EdgeTests::twoNames, x -> x.cut(3));
        saves("open", EdgeTests::twoNames, x -> x.open(0));
        saves("name", () -> with("abab"), x -> x.name());
        saves("no step", EdgeTests::twoNames, x -> x.name());
        saves("nameAll", () -> with("cabcabab"), x -> x.nameAll());
        saves("no steps", EdgeTests::twoNames, x -> x.nameAll());
        saves("letGo", EdgeTests::oneUse, x -> x.letGo());
        saves("a letGo of none", EdgeTests::twoNames, x -> x.letGo());
        saves("openAll", EdgeTests::twoNames, x -> x.openAll());
        saves("an openAll of signs", EdgeTests::empty, x -> x.openAll());
        saves("set(0, 9)", EdgeTests::twoNames, x -> x.set(0, 9));
        saves("set(1, 1)", EdgeTests::twoNames, x -> x.set(1, 1));
        saves("a set to the same", EdgeTests::empty, x -> x.set(0, 2));
        PairNames grown = typed("ab");
        grown.grow();
        type(grown, "hh2");
        due("undo of grow", grown.undo(), 0);
        due("row", row(grown), "");
        due("the buffer is not brought back", grown.clearBuffer(), 3);
        for (Maker maker : List.<Maker>of(EdgeTests::empty, EdgeTests::twoNames, EdgeTests::oneUse, EdgeTests::deepest)) {
            looksSaveNothing(maker);
        }
        PairNames counted = twoNames();
        counted.set(1, 9);
        counted.letGo();
        due("steps and let go", counted.count(6) * 10 + counted.count(7), 22);
        counted.undo();
        due("let go is undone", counted.count(6) * 10 + counted.count(7), 20);
        counted.undo();
        counted.undo();
        due("steps are undone", counted.count(6), 0);

        says("At most 6 states are saved; the oldest one is dropped first.");
        for (int calls = 0; calls <= 14; calls++) {
            savedStates(calls);
        }
    }

    /** [9] alone: 9 = c[8], 8 = ab; both are used once. */
    private static PairNames oneUse() {
        PairNames x = twoNames();
        x.cut(1);
        return x;
    }

    private static void looksSaveNothing(Maker maker) {
        changesNothing(maker, x -> x.clearBuffer());
        changesNothing(maker, x -> x.append('a') + x.clearBuffer());
        changesNothing(maker, x -> x.firstError());
        changesNothing(maker, x -> x.part(0) + x.part(Integer.MAX_VALUE));
        changesNothing(maker, x -> x.sign(0) + x.sign(Integer.MAX_VALUE));
        for (int i = 0; i <= 7; i++) {
            int what = i;
            changesNothing(maker, x -> x.about(what, 7 - what));
            changesNothing(maker, x -> x.times(what));
            changesNothing(maker, x -> x.pair(what, what) + x.pair(0, what));
            changesNothing(maker, x -> x.count(what) + x.count(what + 1));
            changesNothing(maker, x -> x.next(what % 4) + x.ifNamed(what % 4));
        }
        changesNothing(maker, x -> x.setting(0) + x.setting(1));
        changesNothing(maker, x -> x.bestOften());
        changesNothing(maker, x -> x.saved());
        changesNothing(maker, x -> x.digest());
    }

    /** After so many calls of add: how many states are saved, and which. */
    private static void savedStates(int calls) {
        PairNames x = new PairNames();
        for (int i = 0; i < calls; i++) {
            x.add(i % 8);
        }
        int states = Math.min(calls, 6);
        due("saved states behind " + calls, x.count(8), states);
        for (int left = states - 1; left >= 0; left--) {
            due("left of " + calls, x.undo(), left);
            due("the latest one first, parts", x.count(0), calls - states + left);
        }
        due("one more than there are", answer(() -> x.undo()), ISE);
        due("parts", x.count(0), calls - states);
    }

    private static void exceptions() {
        promise = TERMS;
        says("A call that throws an exception changes nothing.");
        List<Maker> makers = List.of(EdgeTests::empty, EdgeTests::fullOfSigns, EdgeTests::fullWithNames,
            EdgeTests::deepest, EdgeTests::sixteenNames, EdgeTests::sixStates);
        for (Maker maker : makers) {
            wrongPlaces(maker);
            for (int extreme : EXTREMES) {
                wrongNumbers(maker, extreme);
            }
            wrongNumbers(maker, -1);
            refused("undo with its states gone", ISE, () -> undone(maker), x -> x.undo());
        }

        says("If several exceptions apply, the one that is named first in the throws clause is thrown.");
        refused("grow: no text, and too long", IAE, () -> fullAnd("a9!"), x -> x.grow());
        refused("grow: no text, and full", IAE, EdgeTests::fullOfSigns, x -> x.grow());
        refused("add: no part, and full", IOOBE, EdgeTests::fullOfSigns, x -> x.add(8));
        refused("open: no place, and full", IOOBE, EdgeTests::fullWithNames, x -> x.open(64));
        refused("open: no place, and full", IOOBE, EdgeTests::fullWithNames, x -> x.open(-1));
        refused("set: no setting, no value", IOOBE, EdgeTests::empty, x -> x.set(2, 10));
        refused("set: no setting, no value", IOOBE, EdgeTests::empty, x -> x.set(-1, 0));
        refused("append: no code, and full", IAE, () -> typed("a".repeat(60)), x -> x.append(127));
        refused("append: no code, and full", IAE, () -> typed("a".repeat(60)), x -> x.append(32));
        refused("about: no part, no property", IOOBE, EdgeTests::empty, x -> x.about(8, 8));
        refused("about: no part, no property", IOOBE, EdgeTests::empty, x -> x.about(-1, -1));

        says("The constants: `NONE = -1`: There is nothing to return.");
        due("NONE", PairNames.NONE, -1);
    }

    private static PairNames sixStates() {
        PairNames x = twoNames();
        x.set(0, 3);
        x.set(1, 4);
        grow(x, "abab");
        x.add(9);
        x.open(0);
        type(x, "a2!");
        return x;
    }

    private static PairNames fullAnd(String buffer) {
        PairNames x = fullOfSigns();
        type(x, buffer);
        return x;
    }

    private static PairNames undone(Maker maker) {
        PairNames x = maker.make();
        while (x.count(8) > 0) {
            x.undo();
        }
        return x;
    }

    private static void wrongPlaces(Maker maker) {
        int parts = maker.make().count(0);
        refused("cut", IOOBE, maker, x -> x.cut(parts + 1));
        refused("open", IOOBE, maker, x -> x.open(parts));
        refused("add", IOOBE, maker, x -> x.add(24));
        refused("grow", IAE, maker, x -> x.grow());
    }

    private static void wrongNumbers(Maker maker, int wrong) {
        refused("add", IOOBE, maker, x -> x.add(wrong));
        refused("cut", IOOBE, maker, x -> x.cut(wrong));
        refused("open", IOOBE, maker, x -> x.open(wrong));
        refused("set", IOOBE, maker, x -> x.set(wrong, 2));
        refused("set", IAE, maker, x -> x.set(0, wrong));
        refused("append", IAE, maker, x -> x.append(wrong));
        if (wrong < 0) {
            refused("part", IAE, maker, x -> x.part(wrong));
            refused("sign", IAE, maker, x -> x.sign(wrong));
        }
        refused("about", IOOBE, maker, x -> x.about(wrong, 0));
        refused("about", IAE, maker, x -> x.about(0, wrong));
        refused("pair", IOOBE, maker, x -> x.pair(wrong, 0));
        refused("pair", IOOBE, maker, x -> x.pair(0, wrong));
        refused("next", IAE, maker, x -> x.next(wrong));
        refused("count", IAE, maker, x -> x.count(wrong));
        refused("times", IOOBE, maker, x -> x.times(wrong));
        refused("setting", IOOBE, maker, x -> x.setting(wrong));
        refused("ifNamed", IAE, maker, x -> x.ifNamed(wrong));
    }

    // ---- the row

    private static void newObject() {
        promise = 1;
        says("Creates an empty row, without names, with an empty buffer.");
        PairNames x = new PairNames();
        due("no part", x.part(0), PairNames.NONE);
        due("no sign", x.sign(0), PairNames.NONE);
        due("no name", names(x), "");
        for (int what = 0; what <= 8; what++) {
            due("count(" + what + ")", x.count(what), 0);
        }
        due("the buffer's first error", x.firstError(), 0);
        due("the buffer", x.clearBuffer(), 0);
        refused("no saved state", ISE, EdgeTests::empty, y -> y.undo());
        sixteenNames();
        due("a later object is new, too", whole(new PairNames()), whole(new PairNames()));
        due("it has no names of another one", names(new PairNames()), "");
    }

    private static void grow() {
        promise = 2;
        says("Puts the text in the buffer behind the row, sign by sign, and clears the buffer. Undoable.");
        PairNames x = twoNames();
        grow(x, "h2a");
        due("behind the row", row(x), "[9][9][8]hha");
        due("the buffer", x.clearBuffer(), 0);
        due("saved states", x.count(8), 3);
        saves("grow", () -> typedOnce(EdgeTests.twoNames()), y -> y.grow() + y.append('a'));

        returns("how many parts the row has then.");
        due("one sign", grow(empty(), "a"), 1);
        due("60 characters", grow(empty(), "a".repeat(60)), 60);
        due("64 signs", grow(empty(), "a9b9c9d9e9f9g9h"), 64);
        due("behind 63 parts", grow(almostFull(), "a"), 64);

        says("Throws `IllegalArgumentException` if the buffer is not a complete text as a text");
        refused("an empty buffer", IAE, EdgeTests::empty, y -> y.grow());
        refused("an empty buffer and a row", IAE, EdgeTests::twoNames, y -> y.grow());
        refused("a wrong last character", IAE, () -> typed("abc1"), y -> y.grow());
        refused("a wrong first character", IAE, () -> typed("3abc"), y -> y.grow());
        refused("60 characters, the last one wrong", IAE, () -> typed("a".repeat(59) + "i"), y -> y.grow());

        says("Throws `IllegalStateException` if the row would have more than 64 parts");
        refused("65 signs", ISE, () -> typed("a9b9c9d9e9f9g9h2"), y -> y.grow());
        refused("270 signs", ISE, () -> typed("a9".repeat(30)), y -> y.grow());
        refused("2 behind 63", ISE, () -> behindAlmostFull("a2"), y -> y.grow());
        refused("1 behind 64", ISE, () -> fullAnd("a"), y -> y.grow());
    }

    private static PairNames typedOnce(PairNames x) {
        x.append('a');
        return x;
    }

    private static PairNames behindAlmostFull(String buffer) {
        PairNames x = almostFull();
        type(x, buffer);
        return x;
    }

    private static void add() {
        promise = 3;
        says("Puts a part behind the row. Undoable.");
        PairNames x = twoNames();
        x.add(8);
        x.add(3);
        due("behind the row", row(x), "[9][9][8][8]d");
        due("saved states", x.count(8), 4);

        says("- `part`: 0 to 7, or a name that there is");
        takes(0, 7, IOOBE, EdgeTests::empty, (y, part) -> y.add(part));
        takes(0, 9, IOOBE, EdgeTests::twoNames, (y, part) -> y.add(part));
        takes(0, 23, IOOBE, EdgeTests::sixteenNames, (y, part) -> y.add(part));

        returns("how many parts the row has then.");
        due("the first one", empty().add(7), 1);
        due("the 64th one", almostFull().add(8), 64);

        says("Throws `IndexOutOfBoundsException` if there is no such part");
        for (int name = 8; name <= 24; name++) {
            int missing = name;
            refused("add(" + name + ") without names", IOOBE, EdgeTests::empty, y -> y.add(missing));
        }
        refused("a name that is gone", IOOBE, () -> nameGone(), y -> y.add(8));
        refused("a name that is undone", IOOBE, () -> undone(EdgeTests::twoNames), y -> y.add(8));

        says("Throws `IllegalStateException` if the row has 64 parts");
        refused("a sign", ISE, EdgeTests::fullOfSigns, y -> y.add(0));
        refused("a name", ISE, EdgeTests::fullWithNames, y -> y.add(8));
    }

    /** 8 is free, 9 = ab is there. */
    private static PairNames nameGone() {
        PairNames x = with("ababcdcdcd");
        x.nameAll();
        x.cut(2);
        return x;
    }

    private static void cut() {
        promise = 4;
        says("Cuts the row off at a place: its parts from there on are gone; names without uses are gone, too, the "
            + "greatest depth first, until there are none such. Undoable.");
        PairNames x = twoNames();
        x.cut(2);
        due("from there on", row(x), "[9][9]");
        due("8 is used in 9", names(x), "8=ab 9=c[8]");
        x.cut(0);
        due("9 goes, and then 8", names(x), "");
        PairNames low = lowNameOfHigh();
        low.cut(1);
        due("one use is enough", names(low), "8=[9]e 9=ab");
        low.cut(0);
        due("the deeper one is the lower one", names(low), "");
        PairNames deep = deepest();
        due("all 16 names go", deep.cut(0), 0);
        due("none is left", names(deep), "");
        due("saved states", deep.count(8), 6);
        due("none was let go", deep.count(7), 0);

        says("- `place`: 0 to the number of parts");
        takes(0, 0, IOOBE, EdgeTests::empty, (y, place) -> y.cut(place));
        takes(0, 3, IOOBE, EdgeTests::twoNames, (y, place) -> y.cut(place));
        takes(0, 64, IOOBE, EdgeTests::fullOfSigns, (y, place) -> y.cut(place));

        returns("how many names there are then.");
        due("of an empty row", empty().cut(0), 0);
        due("all 16 of 32 parts", sixteenNames().cut(32), 16);
        due("all 16 of 31 parts", sixteenNames().cut(31), 16);
        due("15 of 30 parts", sixteenNames().cut(30), 15);
        due("one of one part", sixteenNames().cut(1), 1);
        due("16 of one part", deepest().cut(1), 16);

        says("Throws `IndexOutOfBoundsException` if there is no such place");
        refused("behind the last one", IOOBE, EdgeTests::twoNames, y -> y.cut(4));
        refused("before the first one", IOOBE, EdgeTests::twoNames, y -> y.cut(-1));
        refused("in an empty row", IOOBE, EdgeTests::empty, y -> y.cut(1));
        refused("65 in a full row", IOOBE, EdgeTests::fullOfSigns, y -> y.cut(65));
    }

    private static void open() {
        promise = 5;
        says("Replaces a part of the row that is a name by its pair; if the name has no use then, it is gone. Undoable.");
        PairNames x = twoNames();
        x.open(0);
        due("the first place", row(x), "c[8][9][8]");
        x.open(3);
        due("the last place", row(x), "c[8][9]ab");
        due("a use in the row is left", names(x), "8=ab 9=c[8]");
        x.open(1);
        due("a use in a pair is left", names(x), "8=ab 9=c[8]");
        x.open(3);
        due("9 has no use", names(x), "8=ab");
        due("saved states", x.count(8), 6);
        due("none was let go", x.count(7), 0);

        says("- `place`: its place in the row");
        takes(0, 2, IOOBE, EdgeTests::twoNames, (y, place) -> y.open(place));
        takes(0, 31, IOOBE, EdgeTests::sixteenNames, (y, place) -> y.open(place));

        returns("the name.");
        due("the least one", sixteenNames().open(0), 8);
        due("the greatest one", sixteenNames().open(31), 23);
        due("one that is gone then", oneUse().open(0), 9);

        says("Throws `IndexOutOfBoundsException` if there is no such place");
        refused("in an empty row", IOOBE, EdgeTests::empty, y -> y.open(0));
        refused("behind the last part", IOOBE, EdgeTests::twoNames, y -> y.open(3));
        refused("before the first part", IOOBE, EdgeTests::twoNames, y -> y.open(-1));

        says("Throws `IllegalStateException` if it is a sign, or the row has 64 parts");
        refused("the least sign", ISE, () -> with("ah"), y -> y.open(0));
        refused("the greatest sign", ISE, () -> with("ah"), y -> y.open(1));
        refused("a name in a full row", ISE, EdgeTests::fullWithNames, y -> y.open(0));
        refused("a sign in a full row", ISE, EdgeTests::fullWithNames, y -> y.open(63));
        due("with 63 parts", almostFull().open(0), 8);
    }

    // ---- naming

    private static void name() {
        promise = 6;
        says("Makes a step of naming, if there is a pair that occurs often enough, and a name for it. Undoable.");
        PairNames x = with("abab");
        x.set(0, 3);
        x.name();
        due("not often enough", row(x), "abab");
        x.set(0, 2);
        x.name();
        due("often enough", row(x), "[8][8]");
        due("one step alone", stepsOfOne("cabcabab"), "c[8]c[8][8]");
        due("saved states", x.count(8), 5);

        returns("the name that is used, NONE if there is no step.");
        due("an empty row", empty().name(), -1);
        due("the lowest name", with("abab").name(), 8);
        due("the greatest name", almostSixteen().name(), 23);
        PairNames full = sixteenNames();
        grow(full, "hghg");
        due("16 names in use, a pair without", full.name(), -1);
        due("steps", full.count(6), 16);
        full.cut(32);
        grow(full, "bhbh");
        due("16 names in use, a pair with one", full.name(), 23);
        due("steps", full.count(6), 17);
    }

    private static String stepsOfOne(String text) {
        PairNames x = with(text);
        x.name();
        return row(x);
    }

    /** 15 names in use, and a pair without a name. */
    private static PairNames almostSixteen() {
        PairNames x = sixteenNames();
        x.cut(30);
        grow(x, "hghg");
        return x;
    }

    private static void nameAll() {
        promise = 7;
        says("Makes steps of naming until there is none. Undoable, as one call.");
        PairNames x = with("a9a9a9a9a9a9a9a");
        x.nameAll();
        due("a full row", row(x), "[12][12]");
        due("no step is left", x.next(3), -1);
        due("one state", x.count(8), 2);
        x.undo();
        due("undone as one call", row(x), "a".repeat(64));
        PairNames last = almostSixteen();
        last.set(0, 2);
        last.nameAll();
        due("until there is no name", last.count(1), 16);

        returns("how many steps are made.");
        due("an empty row", empty().nameAll(), 0);
        due("none", with("a3").nameAll(), 0);
        due("one", with("a4").nameAll(), 1);
        due("five", with("a9a9a9a9a9a9a9a").nameAll(), 5);
        PairNames twice = with("abab");
        twice.nameAll();
        grow(twice, "cdcd");
        due("not those of before", twice.nameAll(), 1);
        PairNames full = sixteenNames();
        grow(full, "hghg");
        due("no name is left", full.nameAll(), 0);
    }

    private static void letGo() {
        promise = 8;
        says("Lets names go: as long as some name that is rare can be let go, the lowest such one is. Undoable, as one "
            + "call.");
        PairNames x = sixteenRare();
        x.letGo();
        due("all 16 have room", x.count(0), 64);
        due("none is left", names(x), "");
        due("one state", x.undo(), 5);
        due("undone as one call", x.count(1), 16);
        PairNames room = sixteenRare();
        room.add(7);
        room.letGo();
        due("the last one has no room", names(room), "23=bh");
        due("parts", room.count(0), 63);
        PairNames two = twoOfEight();
        two.letGo();
        due("the lowest one takes the room", names(two), "9=cd");
        PairNames higher = threeOfEight();
        higher.letGo();
        due("the lowest one has no room, the next has", names(higher), "8=ab");
        PairNames low = lowNameOfHigh();
        low.set(1, 9);
        low.letGo();
        due("a lower one that a higher one is in", row(low), "abeabe");

        returns("how many are let go.");
        due("no names", empty().letGo(), 0);
        due("none is rare", twoNames().letGo(), 0);
        due("two", oneUse().letGo(), 2);
        due("16", sixteenRare().letGo(), 16);
        PairNames again = oneUse();
        again.letGo();
        due("not those of before", again.letGo(), 0);
        due("a full row", letGoInRow(64), "0 gone, 64 parts");
    }

    /** 16 names with two uses each in 32 parts; three uses are asked for. */
    private static PairNames sixteenRare() {
        PairNames x = sixteenNames();
        x.set(1, 3);
        return x;
    }

    /** [8][8][9][9] and 58 signs, 62 parts; both names are rare, and one has room. */
    private static PairNames twoOfEight() {
        PairNames x = with("ababcdcd");
        x.nameAll();
        grow(x, "h9g9h9g9h9g9h4");
        x.set(1, 3);
        return x;
    }

    /** [8][8][9] and 60 signs, 63 parts; both names are rare, and only the higher one has room. */
    private static PairNames threeOfEight() {
        PairNames x = with("ababcdcd");
        x.nameAll();
        x.cut(3);
        grow(x, "h9g9h9g9h9g9h6");
        x.set(1, 3);
        return x;
    }

    private static void openAll() {
        promise = 9;
        says("Opens all names: the row becomes its text. Undoable.");
        PairNames x = twoNames();
        x.openAll();
        due("row", row(x), "cabcabab");
        due("no names", names(x), "");
        due("none was let go", x.count(7), 0);
        due("saved states", x.count(8), 3);
        PairNames low = lowNameOfHigh();
        low.openAll();
        due("a name of a higher one", row(low), "abeabe");
        due("no names", names(low), "");

        returns("how many parts the row has then.");
        due("an empty row", empty().openAll(), 0);
        due("one name", oneUse().openAll(), 3);
        due("64 signs", named64().openAll(), 64);
        due("64 signs without names", fullOfSigns().openAll(), 64);

        says("Throws `IllegalStateException` if the text has more than 64 signs");
        refused("65 signs", ISE, () -> named65(), y -> y.openAll());
        refused("65 signs in 64 parts", ISE, EdgeTests::sixtyFourParts, y -> y.openAll());
        refused("4194304 signs", ISE, EdgeTests::deepest, y -> y.openAll());
    }

    private static PairNames named64() {
        PairNames x = with("a9a9a9a9a9a9a9a");
        x.nameAll();
        return x;
    }

    private static PairNames named65() {
        PairNames x = named64();
        x.add(7);
        return x;
    }

    /** 63 signs and one name. */
    private static PairNames sixtyFourParts() {
        PairNames x = with("abab");
        x.name();
        x.cut(1);
        grow(x, "c9d9e9f9g9h9c9");
        return x;
    }

    private static void set() {
        promise = 10;
        says("Changes a setting. Undoable.");
        PairNames x = empty();
        x.set(0, 9);
        due("0 alone", x.setting(0) * 10 + x.setting(1), 92);
        x.set(1, 1);
        due("1 alone", x.setting(0) * 10 + x.setting(1), 91);
        due("saved states", x.count(8), 2);

        says("- `setting`: 0 or 1");
        takes(0, 1, IOOBE, EdgeTests::twoNames, (y, setting) -> y.set(setting, 2));

        says("- `value`: the new value");
        for (int value = 2; value <= 9; value++) {
            PairNames y = empty();
            y.set(0, value);
            due("setting 0", y.setting(0), value);
        }
        for (int value = 1; value <= 9; value++) {
            PairNames y = empty();
            y.set(1, value);
            due("setting 1", y.setting(1), value);
        }

        returns("the previous value.");
        due("at first", empty().set(0, 9) * 10 + empty().set(1, 9), 22);
        due("the greatest", x.set(0, 2), 9);
        due("the least", x.set(1, 9), 1);
        due("the same", x.set(0, 2), 2);

        says("Throws `IndexOutOfBoundsException` if there is no such setting");
        refused("set(2, 2)", IOOBE, EdgeTests::twoNames, y -> y.set(2, 2));
        refused("set(-1, 2)", IOOBE, EdgeTests::twoNames, y -> y.set(-1, 2));

        says("Throws `IllegalArgumentException` if value is out of range");
        refused("1 is too small for setting 0 alone", IAE, EdgeTests::twoNames, y -> y.set(0, 1));
        refused("set(0, 10)", IAE, EdgeTests::twoNames, y -> y.set(0, 10));
        refused("set(1, 0)", IAE, EdgeTests::twoNames, y -> y.set(1, 0));
        refused("set(1, 10)", IAE, EdgeTests::twoNames, y -> y.set(1, 10));
    }

    // ---- texts

    private static void append() {
        promise = 11;
        says("Appends a character to the buffer.");
        PairNames x = empty();
        String before = look(x);
        x.append('~');
        due("the buffer is another one", look(x).equals(before), false);
        due("nothing is saved", x.count(8), 0);
        due("at its end", row(with("ab")), "ab");

        says("- `code`: the character code, 33 to 126");
        takes(33, 126, IAE, EdgeTests::empty, (y, code) -> y.append(code));
        for (int code = 33; code <= 126; code++) {
            String one = String.valueOf((char) code);
            due("in the digest: " + code, typed(one).digest(), hash(typed(one), one).longValue());
        }

        returns("the new length of the buffer.");
        due("the first one", empty().append('a'), 1);
        due("the 60th one", typed("a".repeat(59)).append('a'), 60);

        says("Throws `IllegalArgumentException` if code is not 33 to 126");
        refused("32", IAE, EdgeTests::twoNames, y -> y.append(32));
        refused("127", IAE, EdgeTests::twoNames, y -> y.append(127));
        refused("a + 65536", IAE, EdgeTests::twoNames, y -> y.append('a' + 65536));

        says("Throws `IllegalStateException` if the buffer has 60 characters");
        refused("letters", ISE, () -> typed("a".repeat(60)), y -> y.append('a'));
        refused("other ones", ISE, () -> typed("~".repeat(60)), y -> y.append(33));
    }

    private static void clearBuffer() {
        promise = 12;
        says("Clears the buffer.");
        PairNames x = typed("~".repeat(60));
        x.clearBuffer();
        due("as if nothing was typed", look(x), look(empty()));
        due("it takes the first one again", x.append('b'), 1);
        due("what was there does not come back", row(grown(x)), "b");

        returns("the length that it had.");
        due("an empty one", empty().clearBuffer(), 0);
        due("one character", typed("!").clearBuffer(), 1);
        due("a full one", typed("a".repeat(60)).clearBuffer(), 60);
    }

    private static PairNames grown(PairNames x) {
        x.grow();
        return x;
    }

    private static void firstError() {
        promise = 13;
        says("Finds the first syntax error of the buffer.");
        due("of two", typed("a!b!").firstError(), 1);
        due("of three numbers", typed("a234").firstError(), 2);

        returns("the index of the first character that is a syntax error; the length of the buffer if there is none.");
        due("an empty buffer", typed("").firstError(), 0);
        due("one letter", typed("h").firstError(), 1);
        due("one wrong character", typed("i").firstError(), 0);
        due("a number first", typed("2").firstError(), 0);
        due("a full buffer without an error", typed("h9".repeat(30)).firstError(), 60);
        due("a full buffer, the last one wrong", typed("h9".repeat(29) + "h1").firstError(), 59);
        due("a full buffer, the first one wrong", typed("H" + "h".repeat(59)).firstError(), 0);
        for (int code = 33; code <= 126; code++) {
            boolean letter = code >= 'a' && code <= 'h';
            boolean number = code >= '2' && code <= '9';
            due("first: " + code, typed("" + (char) code).firstError(), letter ? 1 : 0);
            due("behind a letter: " + code, typed("c" + (char) code).firstError(), letter || number ? 2 : 1);
            due("behind a number: " + code, typed("c5" + (char) code).firstError(), letter ? 3 : 2);
        }
    }

    private static void undo() {
        promise = 14;
        says("Restores the latest saved state, and drops it.");
        PairNames x = empty();
        x.add(0);
        x.add(1);
        x.undo();
        due("the latest one", row(x), "a");
        x.undo();
        due("and the one before", row(x), "");
        PairNames mixed = empty();
        for (int i = 0; i < 6; i++) {
            mixed.add(i);
        }
        mixed.undo();
        mixed.undo();
        mixed.add(6);
        mixed.add(7);
        mixed.add(7);
        due("saved again, and the oldest one dropped", mixed.count(8), 6);
        for (String row : new String[] {"abcdgh", "abcdg", "abcd", "abc", "ab", "a"}) {
            mixed.undo();
            due("row", row(mixed), row);
        }
        due("no state is left", answer(() -> mixed.undo()), ISE);

        returns("how many saved states are left.");
        PairNames six = sixStates();
        for (int left = 5; left >= 0; left--) {
            due("left", six.undo(), left);
        }

        says("Throws `IllegalStateException` if there is none");
        refused("a new object", ISE, EdgeTests::empty, y -> y.undo());
        refused("a buffer alone", ISE, () -> typed("abc"), y -> y.undo());
        refused("all are undone", ISE, () -> undone(EdgeTests::sixStates), y -> y.undo());
    }

    // ---- looks

    private static void part() {
        promise = 15;
        says("Returns a part of the row.");
        due("a sign", with("ah").part(1), 7);
        due("a name", twoNames().part(0), 9);

        says("- `place`: its place, from 0");
        due("the first one", fullOfSigns().part(0), 0);
        due("the last one", fullOfSigns().part(63), 7);

        returns("the part, NONE if there are not so many.");
        due("an empty row", empty().part(0), -1);
        due("behind the last one", twoNames().part(3), -1);
        due("behind a full row", fullOfSigns().part(64), -1);
        due("far behind", fullOfSigns().part(Integer.MAX_VALUE), -1);
        PairNames cut = fullOfSigns();
        cut.cut(63);
        due("where one was", cut.part(63), -1);

        says("Throws `IllegalArgumentException` if place is below 0");
        refused("-1", IAE, EdgeTests::twoNames, x -> x.part(-1));
        refused("-1 in an empty row", IAE, EdgeTests::empty, x -> x.part(-1));
        refused("the least", IAE, EdgeTests::twoNames, x -> x.part(Integer.MIN_VALUE));
    }

    private static void sign() {
        promise = 16;
        says("Returns a sign of the text of the row.");
        due("in a name", twoNames().sign(1), 0);
        due("in a name's second part", twoNames().sign(2), 1);

        says("- `place`: its place in the text, from 0");
        due("the first one", twoNames().sign(0), 2);
        due("the last one", twoNames().sign(7), 1);
        due("the last one of 4194304", deepest().sign(4194303), 0);
        PairNames ends = doubled(16);
        ends.add(7);
        ends.add(23);
        due("behind 131072", ends.sign(131072), 7);
        due("before it", ends.sign(131071), 0);
        due("behind it", ends.sign(131073), 0);

        returns("the sign, NONE if there are not so many.");
        due("an empty row", empty().sign(0), -1);
        due("behind the last one", twoNames().sign(8), -1);
        due("behind 4194304", deepest().sign(4194304), -1);
        due("far behind", deepest().sign(Integer.MAX_VALUE), -1);

        says("Throws `IllegalArgumentException` if place is below 0");
        refused("-1", IAE, EdgeTests::twoNames, x -> x.sign(-1));
        refused("-1 in an empty row", IAE, EdgeTests::empty, x -> x.sign(-1));
        refused("the least", IAE, EdgeTests::twoNames, x -> x.sign(Integer.MIN_VALUE));
    }

    private static void about() {
        promise = 17;
        says("Returns a property of a part.");
        due("of a sign", twoNames().about(1, 5), 1);
        due("of a name", twoNames().about(9, 5), 3);
        changesNothing(EdgeTests::twoNames, x -> x.about(9, 7));

        says("- `part`: 0 to 7, or a name that there is");
        takes(0, 7, IOOBE, EdgeTests::empty, (x, part) -> x.about(part, 0));
        takes(0, 9, IOOBE, EdgeTests::twoNames, (x, part) -> x.about(part, 0));
        takes(0, 23, IOOBE, EdgeTests::sixteenNames, (x, part) -> x.about(part, 0));

        says("- `what`: 0, 1: the first and the second part of its pair, NONE for a sign; 2: its uses (for a sign "
            + "likewise); 3: of these in the row; 4: its depth; 5: its length; 6: the first sign of its text; 7: the "
            + "last one");
        takes(0, 7, IAE, EdgeTests::empty, (x, what) -> x.about(0, what));
        takes(0, 7, IAE, EdgeTests::twoNames, (x, what) -> x.about(9, what));
        properties(empty(), 0, -1, -1, 0, 0, 0, 1, 0, 0);
        properties(empty(), 7, -1, -1, 0, 0, 0, 1, 7, 7);
        properties(fullOfSigns(), 0, -1, -1, 9, 9, 0, 1, 0, 0);
        properties(with("a9a9a9a9a9a9a9a"), 0, -1, -1, 64, 64, 0, 1, 0, 0);
        properties(twoNames(), 8, 0, 1, 2, 1, 1, 2, 0, 1);
        properties(twoNames(), 9, 2, 8, 2, 2, 2, 3, 2, 1);
        properties(twoNames(), 2, -1, -1, 1, 0, 0, 1, 2, 2);
        properties(oneUse(), 8, 0, 1, 1, 0, 1, 2, 0, 1);
        properties(lowNameOfHigh(), 8, 9, 4, 2, 2, 2, 3, 0, 4);
        properties(deepest(), 8, 0, 0, 2, 0, 1, 2, 0, 0);
        properties(deepest(), 23, 22, 22, 64, 64, 16, 65536, 0, 0);
        properties(deepest(), 0, -1, -1, 2, 0, 0, 1, 0, 0);
        properties(sixteenNames(), 23, 1, 7, 2, 2, 1, 2, 1, 7);
        properties(sixteenNames(), 0, -1, -1, 10, 0, 0, 1, 0, 0);

        returns("the property.");
        due("uses in the row and in a pair", uses(), 3);

        says("Throws `IndexOutOfBoundsException` if there is no such part");
        for (int name = 8; name <= 24; name++) {
            int missing = name;
            refused("without names " + name, IOOBE, EdgeTests::empty, x -> x.about(missing, 0));
        }
        refused("a name that is gone", IOOBE, EdgeTests::nameGone, x -> x.about(8, 0));
        due("the higher one is there", nameGone().about(9, 0), 0);

        says("Throws `IllegalArgumentException` if what is not 0 to 7");
        refused("8", IAE, EdgeTests::twoNames, x -> x.about(9, 8));
        refused("-1", IAE, EdgeTests::twoNames, x -> x.about(9, -1));
    }

    private static int uses() {
        PairNames x = twoNames();
        x.add(8);
        return x.about(8, 2);
    }

    private static void properties(PairNames x, int part, int... want) {
        for (int what = 0; what < want.length; what++) {
            due("about(" + part + ", " + what + ")", x.about(part, what), want[what]);
        }
    }

    private static void pair() {
        promise = 18;
        says("Tells how often a pair occurs in the row.");
        due("signs", with("ababa").pair(0, 1), 2);
        due("names", twoNames().pair(9, 9) * 10 + twoNames().pair(9, 8), 11);
        due("a pair that has a name and is not in the row", twoNames().pair(0, 1), 0);

        says("- `first`: 0 to 7, or a name that there is");
        takes(0, 7, IOOBE, EdgeTests::empty, (x, part) -> x.pair(part, 0));
        takes(0, 9, IOOBE, EdgeTests::twoNames, (x, part) -> x.pair(part, 9));
        takes(0, 23, IOOBE, EdgeTests::sixteenNames, (x, part) -> x.pair(part, 23));

        says("- `second`: 0 to 7, or a name that there is");
        takes(0, 7, IOOBE, EdgeTests::empty, (x, part) -> x.pair(0, part));
        takes(0, 9, IOOBE, EdgeTests::twoNames, (x, part) -> x.pair(9, part));
        takes(0, 23, IOOBE, EdgeTests::sixteenNames, (x, part) -> x.pair(23, part));

        returns("how often, as occurrences are counted.");
        due("an empty row", empty().pair(7, 7), 0);
        due("aaa", with("a3").pair(0, 0), 1);
        due("a full row", with("a9a9a9a9a9a9a9a").pair(0, 0), 32);
        due("64 names", deepest().pair(23, 23), 32);
        due("at the end of a full row", fullWithNames().pair(7, 2), 1);

        says("Throws `IndexOutOfBoundsException` if there is no such part");
        refused("the first one", IOOBE, EdgeTests::nameGone, x -> x.pair(8, 9));
        refused("the second one", IOOBE, EdgeTests::nameGone, x -> x.pair(9, 8));
        refused("both", IOOBE, EdgeTests::empty, x -> x.pair(8, 8));
    }

    private static void next() {
        promise = 19;
        says("Tells the pair of the next step of naming.");
        nextIs(with("abab"), 0, 1, 2, 8);
        nextIs(with("a9a9a9a9a9a9a9a"), 0, 0, 32, 8);
        nextIs(deepest(), -1, -1, -1, -1);

        says("- `what`: 0: its first part; 1: its second part; 2: how often it occurs; 3: the name that it would get; "
            + "NONE if there is no step");
        takes(0, 3, IAE, EdgeTests::empty, (x, what) -> x.next(what));
        takes(0, 3, IAE, EdgeTests::sixteenNames, (x, what) -> x.next(what));
        nextIs(empty(), -1, -1, -1, -1);
        nextIs(with("a"), -1, -1, -1, -1);
        nextIs(with("a3"), -1, -1, -1, -1);
        nextIs(with("a4"), 0, 0, 2, 8);
        nextIs(almostSixteen(), 7, 6, 2, 23);
        PairNames full = sixteenNames();
        grow(full, "hghg");
        nextIs(full, -1, -1, -1, -1);
        full.cut(32);
        grow(full, "bhbhbh");
        nextIs(full, 1, 7, 3, 23);
        full.set(0, 3);
        nextIs(full, 1, 7, 3, 23);
        full.set(0, 4);
        nextIs(full, -1, -1, -1, -1);

        returns("the number.");
        PairNames x = with("cabcabab");
        due("the name that name() uses", x.next(3), x.name());
        due("and then the next one", x.next(3), x.name());
        due("and then none", x.next(3), x.name());

        says("Throws `IllegalArgumentException` if what is not 0 to 3");
        refused("4", IAE, EdgeTests::twoNames, y -> y.next(4));
        refused("-1", IAE, EdgeTests::twoNames, y -> y.next(-1));
    }

    private static void nextIs(PairNames x, int... want) {
        for (int what = 0; what < want.length; what++) {
            due("next(" + what + ")", x.next(what), want[what]);
        }
    }

    private static void count() {
        promise = 20;
        says("Returns a number.");
        due("of the row", twoNames().count(0), 3);
        changesNothing(EdgeTests::twoNames, x -> x.count(8));

        says("- `what`: 0: parts of the row; 1: names; 2: the length of the text of the row; 3: unlike parts in the row; "
            + "4: the greatest depth of a part of the row, 0 without parts; 5: the size, which is the parts of the row "
            + "and 2 for each name; 6: steps of naming so far; 7: names that were let go so far by letGo(); 8: saved "
            + "states");
        takes(0, 8, IAE, EdgeTests::empty, (x, what) -> x.count(what));
        takes(0, 8, IAE, EdgeTests::deepest, (x, what) -> x.count(what));
        counts(empty(), 0, 0, 0, 0, 0, 0, 0, 0, 0);
        counts(with("a"), 1, 0, 1, 1, 0, 1, 0, 0, 1);
        counts(fullOfSigns(), 64, 0, 64, 8, 0, 64, 0, 0, 1);
        counts(twoNames(), 3, 2, 8, 2, 2, 7, 2, 0, 2);
        counts(oneUse(), 1, 2, 3, 1, 2, 5, 2, 0, 3);
        counts(deepest(), 64, 16, 4194304, 1, 16, 96, 16, 0, 6);
        PairNames unlike = sixteenNames();
        for (int sign = 0; sign <= 7; sign++) {
            unlike.add(sign);
        }
        counts(unlike, 40, 16, 72, 24, 1, 72, 16, 0, 6);
        PairNames gone = sixteenRare();
        gone.letGo();
        counts(gone, 64, 0, 64, 8, 0, 64, 16, 16, 6);
        PairNames not = oneUse();
        not.open(0);
        not.openAll();
        counts(not, 3, 0, 3, 3, 0, 3, 2, 0, 5);

        returns("the number.");
        due("steps that are none are not counted", noSteps(), 0);

        says("Throws `IllegalArgumentException` if what is not 0 to 8");
        refused("9", IAE, EdgeTests::twoNames, x -> x.count(9));
        refused("-1", IAE, EdgeTests::twoNames, x -> x.count(-1));
    }

    private static int noSteps() {
        PairNames x = with("abc");
        x.name();
        x.nameAll();
        x.letGo();
        return x.count(6) + x.count(7);
    }

    private static void counts(PairNames x, int... want) {
        for (int what = 0; what < want.length; what++) {
            due("count(" + what + ")", x.count(what), want[what]);
        }
    }

    private static void times() {
        promise = 21;
        says("Tells how often a sign is in the text of the row.");
        due("in names and in the row", twoNames().times(0) * 10 + twoNames().times(2), 32);
        due("by way of a lower name", lowNameOfHigh().times(1), 2);

        says("- `sign`: 0 to 7");
        takes(0, 7, IOOBE, EdgeTests::empty, (x, sign) -> x.times(sign));
        takes(0, 7, IOOBE, EdgeTests::sixteenNames, (x, sign) -> x.times(sign));
        due("the least", fullOfSigns().times(0), 9);
        due("the greatest", fullOfSigns().times(7), 1);

        returns("how often.");
        due("an empty row", empty().times(0), 0);
        due("a name's sign that is gone", gone().times(0), 0);
        due("4194304 times", deepest().times(0), 4194304);
        due("none", deepest().times(1), 0);

        says("Throws `IndexOutOfBoundsException` if there is no such sign");
        refused("a name", IOOBE, EdgeTests::sixteenNames, x -> x.times(8));
        refused("-1", IOOBE, EdgeTests::sixteenNames, x -> x.times(-1));
    }

    private static PairNames gone() {
        PairNames x = twoNames();
        x.cut(0);
        return x;
    }

    private static void setting() {
        promise = 22;
        says("Returns a setting.");
        due("of a new object", empty().setting(1), 2);
        changesNothing(EdgeTests::twoNames, x -> x.setting(1));

        says("- `setting`: 0 or 1");
        takes(0, 1, IOOBE, EdgeTests::empty, (x, setting) -> x.setting(setting));

        returns("its value.");
        PairNames x = empty();
        x.set(0, 9);
        x.set(1, 1);
        due("both", x.setting(0) * 10 + x.setting(1), 91);

        says("Throws `IndexOutOfBoundsException` if there is no such setting");
        refused("2", IOOBE, EdgeTests::twoNames, y -> y.setting(2));
        refused("-1", IOOBE, EdgeTests::twoNames, y -> y.setting(-1));
    }

    // ---- what would be

    private static void ifNamed() {
        promise = 23;
        says("Tells what naming until there is no step would bring.");
        ifNamedIs(with("cabcabab"), 2, 3, 7, 2);
        ifNamedIs(named64(), 0, 2, 12, 5);
        ifNamedIs(almostSixteen(), 1, 32, 64, 1);

        says("- `what`: 0: how many steps; 1: how many parts the row would have; 2: the size then; 3: the greatest depth "
            + "of a part of the row then");
        takes(0, 3, IAE, EdgeTests::empty, (x, what) -> x.ifNamed(what));
        takes(0, 3, IAE, EdgeTests::deepest, (x, what) -> x.ifNamed(what));
        ifNamedIs(empty(), 0, 0, 0, 0);
        ifNamedIs(with("a"), 0, 1, 1, 0);
        ifNamedIs(with("a9a9a9a9a9a9a9a"), 5, 2, 12, 5);
        PairNames full = sixteenNames();
        grow(full, "hghg");
        ifNamedIs(full, 0, 36, 68, 1);
        PairNames strict = with("a9a9a9a9a9a9a9a");
        strict.set(0, 9);
        ifNamedIs(strict, 2, 16, 20, 2);
        strict.set(0, 8);
        ifNamedIs(strict, 3, 8, 14, 3);

        returns("the number.");
        PairNames twice = with("abab");
        twice.nameAll();
        grow(twice, "cdcd");
        due("not the steps of before", twice.ifNamed(0), 1);
        changesNothing(() -> with("a9a9"), x -> x.ifNamed(0) + x.ifNamed(3));

        says("Throws `IllegalArgumentException` if what is not 0 to 3");
        refused("4", IAE, EdgeTests::twoNames, y -> y.ifNamed(4));
        refused("-1", IAE, EdgeTests::twoNames, y -> y.ifNamed(-1));
    }

    private static void ifNamedIs(PairNames x, int... want) {
        for (int what = 0; what < want.length; what++) {
            due("ifNamed(" + what + ")", x.ifNamed(what), want[what]);
        }
    }

    private static void bestOften() {
        promise = 24;
        says("Finds how often pairs should occur.");
        due("less with 2 than with more", with("a9a9a9a9a9a9a9a").bestOften(), 2);

        returns("the setting 0, 2 to 9, with which the size would be least behind naming until there is no step, of "
            + "several the lowest one.");
        due("an empty row: all are alike", empty().bestOften(), 2);
        due("abab: 4 with each", with("abab").bestOften(), 2);
        due("16 names in use", sixteenNames().bestOften(), 2);
        for (int often = 2; often <= 9; often++) {
            PairNames x = with("abcabcabdabdab");
            x.set(0, often);
            due("whatever setting 0 is", x.bestOften(), 2);
            due("it stays", x.setting(0), often);
        }
        changesNothing(() -> with("a9a9"), x -> x.bestOften());
    }

    private static void saved() {
        promise = 25;
        says("Returns how much naming saves.");
        due("7 instead of 8", twoNames().saved(), 1.0 - 7.0 / 8.0);

        returns("1.0 less a quotient: the size, as a double, divided by the length of the text of the row; 0.0 without "
            + "parts (it can be below 0).");
        due("without parts", bits(empty().saved()), 0L);
        due("without parts again", bits(gone().saved()), 0L);
        due("signs alone", bits(fullOfSigns().saved()), 0L);
        due("one name, used once", once().saved(), -0.5);
        due("two names, used once", oneUse().saved(), 1.0 - 5.0 / 3.0);
        due("a third is no exact double", bits(third().saved()), bits(1.0 - 8.0 / 9.0));
        due("the most", bits(deepest().saved()), bits(1.0 - 96.0 / 4194304.0));
        PairNames long1 = doubled(16);
        long1.cut(1);
        due("33 of 65536", bits(long1.saved()), bits(1.0 - 33.0 / 65536.0));
    }

    private static PairNames once() {
        PairNames x = with("abab");
        x.name();
        x.cut(1);
        return x;
    }

    private static PairNames third() {
        PairNames x = with("abcabcabd");
        x.nameAll();
        return x;
    }

    private static void digest() {
        promise = 26;
        says("Computes a hash of the whole state. The hash starts at 2749. For each value v of the following list, in "
            + "order, the hash becomes 31 * hash + v, in long arithmetic with overflow. The values are: count(0) to "
            + "count(8); the settings 0 and 1; the parts of the row; for each sign times, and about with 2 and 3; for "
            + "each name that there is its number, and about with 0 to 7; the first 64 signs of the text, NONE where "
            + "there are not so many; next with 0 to 3; pair of 0 and 1, and of 0 and 0; ifNamed with 0 to 3; bestOften; "
            + "the bits of saved (as Double.doubleToLongBits); the length of the buffer and each of its character codes.");
        due("a new object", empty().digest(), -4167265877987772353L);
        PairNames buffered = with("abab");
        buffered.name();
        type(buffered, "a!");
        due("[8][8] and a buffer", buffered.digest(), 7349536667936202047L);
        due("[8], a share below 0", once().digest(), 7558718559523459161L);
        due("[8][9][9]d", third().digest(), 3137525789078416798L);

        returns("the hash.");
        List<Maker> makers = List.of(EdgeTests::empty, EdgeTests::fullOfSigns, EdgeTests::fullWithNames,
            EdgeTests::twoNames, EdgeTests::oneUse, EdgeTests::gone, EdgeTests::deepest, EdgeTests::sixteenNames,
            EdgeTests::almostSixteen, EdgeTests::lowNameOfHigh, EdgeTests::nameGone, EdgeTests::named64,
            EdgeTests::unlikeSettings);
        for (Maker maker : makers) {
            wrapsAround(maker, "");
            wrapsAround(maker, "~!".repeat(30));
        }
    }

    /** Naming makes two steps with setting 0, three with the number that setting 1 has. */
    private static PairNames unlikeSettings() {
        PairNames x = with("a9a9a9a9a9a9a9a");
        x.set(0, 9);
        x.set(1, 5);
        return x;
    }

    /** The hash without a limit is far beyond a long; its lowest 64 bits are the digest. */
    private static void wrapsAround(Maker maker, String buffer) {
        PairNames x = maker.make();
        type(x, buffer);
        BigInteger hash = hash(maker.make(), buffer);
        due("the hash without a limit is too great", hash.bitLength() > 63, true);
        due("digest", x.digest(), hash.longValue());
    }
}
