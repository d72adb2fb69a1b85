/**
 * A row of signs and names. The pair of parts that is in the row most often gets a name, again
 * and again, until no pair repeats; names that are rare are let go.
 */
public final class PairNames {

    /** There is nothing to return. */
    public static final int NONE = -1;

    private static final int SIGNS = 8;
    private static final int PARTS = 24;
    private static final int NAMES = 16;
    private static final int ROW_LIMIT = 64;
    private static final int SIZE_LIMIT = ROW_LIMIT + 2 * NAMES;
    private static final int BUFFER_LIMIT = 60;
    private static final int SAVED_LIMIT = 6;

    private static final int OFTEN = 0;
    private static final int RARE = 1;
    private static final int SETTINGS = 2;
    private static final int LEAST_OFTEN = 2;
    private static final int LEAST_RARE = 1;
    private static final int SETTING_LIMIT = 9;

    private final State state = new State();
    private final History history = new History();
    private final Buffer buffer = new Buffer();
    private final Naming naming = new Naming();

    /** What would be is tried here; it is made once, so that no call makes objects. */
    private final State trial = new State();

    /** Creates an empty row, without names, with an empty buffer. */
    public PairNames() {
    }

    // ---- the row

    /** Puts the text in the buffer behind the row and returns how many parts the row has then. */
    public int grow() throws IllegalArgumentException, IllegalStateException {
        if (!buffer.isText()) {
            throw new IllegalArgumentException("the buffer is not a complete text");
        }
        if (!state.row.takes(buffer.signAmount())) {
            throw new IllegalStateException("the row would be too long");
        }
        history.save(state);
        buffer.writeBehind(state.row);
        buffer.empty();
        return state.row.length;
    }

    /** Puts a part behind the row and returns how many parts the row has then. */
    public int add(int part) throws IndexOutOfBoundsException, IllegalStateException {
        if (!state.names.hasPart(part)) {
            throw new IndexOutOfBoundsException("no such part");
        }
        if (!state.row.takes(1)) {
            throw new IllegalStateException("the row is full");
        }
        history.save(state);
        state.row.push(part);
        return state.row.length;
    }

    /** Cuts the row off at a place and returns how many names there are then. */
    public int cut(int place) throws IndexOutOfBoundsException {
        if (place < 0 || place > state.row.length) {
            throw new IndexOutOfBoundsException("no such place");
        }
        history.save(state);
        state.row.shorten(place);
        state.forgetUnused();
        return state.names.amount();
    }

    /** Replaces a name in the row by its pair and returns the name. */
    public int open(int place) throws IndexOutOfBoundsException, IllegalStateException {
        if (place < 0 || place >= state.row.length) {
            throw new IndexOutOfBoundsException("no such place");
        }
        int opened = state.row.at(place);
        if (opened < SIGNS || !state.row.takes(1)) {
            throw new IllegalStateException("a sign, or the row is full");
        }
        history.save(state);
        state.openAt(place);
        if (state.usesOf(opened) == 0) {
            state.names.forget(opened);
        }
        return opened;
    }

    // ---- naming

    /** Makes a step of naming and returns the name that is used, NONE if there is no step. */
    public int name() {
        history.save(state);
        naming.find(state);
        naming.apply(state);
        return naming.found;
    }

    /** Makes steps of naming until there is none and returns how many. */
    public int nameAll() {
        history.save(state);
        return naming.applyAll(state);
    }

    /** Lets rare names go, the lowest one first, and returns how many. */
    public int letGo() {
        history.save(state);
        int before = state.letGoSoFar;
        // No name is made meanwhile, so each one goes at most once.
        for (int i = 0; i < NAMES; i++) {
            int rare = state.lowestToLetGo();
            if (rare == NONE) {
                break;
            }
            state.release(rare);
        }
        return state.letGoSoFar - before;
    }

    /** Makes the row its text and returns how many parts the row has then. */
    public int openAll() throws IllegalStateException {
        int length = state.textLength();
        if (length > ROW_LIMIT) {
            throw new IllegalStateException("the text is too long");
        }
        history.save(state);
        trial.copyFrom(state);
        state.row.shorten(0);
        for (int i = 0; i < length; i++) {
            state.row.push(trial.signAt(i));
        }
        state.forgetUnused();
        return state.row.length;
    }

    /** Changes a setting and returns its previous value. */
    public int set(int setting, int value)
            throws IndexOutOfBoundsException, IllegalArgumentException {
        if (!isSetting(setting)) {
            throw new IndexOutOfBoundsException("no such setting");
        }
        if (value < leastValue(setting) || value > SETTING_LIMIT) {
            throw new IllegalArgumentException("value out of range");
        }
        history.save(state);
        int previous = state.settings.at(setting);
        state.settings.put(setting, value);
        return previous;
    }

    // ---- texts

    /** Appends a character to the buffer and returns its new length. */
    public int append(int code) throws IllegalArgumentException, IllegalStateException {
        if (code < 33 || code > 126) {
            throw new IllegalArgumentException("code is not 33 to 126");
        }
        if (buffer.length >= BUFFER_LIMIT) {
            throw new IllegalStateException("the buffer is full");
        }
        buffer.push(code);
        return buffer.length;
    }

    /** Clears the buffer and returns the length that it had. */
    public int clearBuffer() {
        int before = buffer.length;
        buffer.empty();
        return before;
    }

    /** Returns the index of the first syntax error, the length of the buffer if there is none. */
    public int firstError() {
        return buffer.firstWrong();
    }

    /** Restores the latest saved state and returns how many are left. */
    public int undo() throws IllegalStateException {
        if (history.amount == 0) {
            throw new IllegalStateException("no saved state");
        }
        history.restore(state);
        return history.amount;
    }

    // ---- looks; nothing is changed

    /** Returns a part of the row, NONE if there are not so many. */
    public int part(int place) throws IllegalArgumentException {
        if (place < 0) {
            throw new IllegalArgumentException("place is below 0");
        }
        return state.row.at(place);
    }

    /** Returns a sign of the text of the row, NONE if there are not so many. */
    public int sign(int place) throws IllegalArgumentException {
        if (place < 0) {
            throw new IllegalArgumentException("place is below 0");
        }
        return state.signAt(place);
    }

    /** Returns a property of a part. */
    public int about(int part, int what)
            throws IndexOutOfBoundsException, IllegalArgumentException {
        if (!state.names.hasPart(part)) {
            throw new IndexOutOfBoundsException("no such part");
        }
        if (what < 0 || what > 7) {
            throw new IllegalArgumentException("what is not 0 to 7");
        }
        return state.property(part, what);
    }

    /** Tells how often a pair occurs in the row. */
    public int pair(int first, int second) throws IndexOutOfBoundsException {
        if (!state.names.hasPart(first) || !state.names.hasPart(second)) {
            throw new IndexOutOfBoundsException("no such part");
        }
        return state.row.occurrences(first, second);
    }

    /** Tells the pair of the next step of naming. */
    public int next(int what) throws IllegalArgumentException {
        if (what < 0 || what > 3) {
            throw new IllegalArgumentException("what is not 0 to 3");
        }
        naming.find(state);
        return naming.finding(what);
    }

    /** Returns a number of the whole. */
    public int count(int what) throws IllegalArgumentException {
        if (what < 0 || what > 8) {
            throw new IllegalArgumentException("what is not 0 to 8");
        }
        return what == 8 ? history.amount : state.total(what);
    }

    /** Tells how often a sign is in the text of the row. */
    public int times(int sign) throws IndexOutOfBoundsException {
        if (sign < 0 || sign >= SIGNS) {
            throw new IndexOutOfBoundsException("no such sign");
        }
        return state.timesInText(sign);
    }

    /** Returns the value of a setting. */
    public int setting(int setting) throws IndexOutOfBoundsException {
        if (!isSetting(setting)) {
            throw new IndexOutOfBoundsException("no such setting");
        }
        return state.settings.at(setting);
    }

    // ---- what would be; nothing is changed

    /** Tells what naming until there is no step would bring. */
    public int ifNamed(int what) throws IllegalArgumentException {
        if (what < 0 || what > 3) {
            throw new IllegalArgumentException("what is not 0 to 3");
        }
        tryNaming(state.settings.at(OFTEN));
        return trialNumber(what);
    }

    /** Returns the setting 0 with which the size would be least, of several the lowest one. */
    public int bestOften() {
        int best = LEAST_OFTEN;
        int bestSize = SIZE_LIMIT + 1;
        for (int often = LEAST_OFTEN; often <= SETTING_LIMIT; often++) {
            tryNaming(often);
            int size = trial.size();
            if (size < bestSize) {
                bestSize = size;
                best = often;
            }
        }
        return best;
    }

    /** Returns how much naming saves, as a share of the text. */
    public double saved() {
        int length = state.textLength();
        if (length <= 0) {
            return 0.0;
        }
        return 1.0 - (double) state.size() / (double) length;
    }

    /** Computes a hash of the whole state. */
    public long digest() {
        long hash = 2749L;
        hash = mixTotals(hash);
        hash = mixParts(hash);
        for (int i = 0; i < ROW_LIMIT; i++) {
            hash = mix(hash, state.signAt(i));
        }
        naming.find(state);
        for (int what = 0; what <= 3; what++) {
            hash = mix(hash, naming.finding(what));
        }
        hash = mix(hash, state.row.occurrences(0, 1));
        hash = mix(hash, state.row.occurrences(0, 0));
        tryNaming(state.settings.at(OFTEN));
        for (int what = 0; what <= 3; what++) {
            hash = mix(hash, trialNumber(what));
        }
        hash = mix(hash, bestOften());
        hash = mix(hash, bitsOf(saved()));
        return mixBuffer(hash);
    }

    // ---- what the calls above share

    private static boolean isSetting(int setting) {
        return setting >= 0 && setting < SETTINGS;
    }

    private static int leastValue(int setting) {
        return setting == OFTEN ? LEAST_OFTEN : LEAST_RARE;
    }

    private void tryNaming(int often) {
        trial.copyFrom(state);
        trial.settings.put(OFTEN, often);
        naming.applyAll(trial);
    }

    private int trialNumber(int what) {
        switch (what) {
            case 0:
                return trial.stepsSoFar - state.stepsSoFar;
            case 1:
                return trial.row.length;
            case 2:
                return trial.size();
            default:
                return trial.greatestDepth();
        }
    }

    private static long mix(long hash, long value) {
        return 31L * hash + value;
    }

    private long mixTotals(long hash) {
        long mixed = hash;
        for (int what = 0; what <= 7; what++) {
            mixed = mix(mixed, state.total(what));
        }
        mixed = mix(mixed, history.amount);
        for (int setting = 0; setting < SETTINGS; setting++) {
            mixed = mix(mixed, state.settings.at(setting));
        }
        return mixed;
    }

    private long mixParts(long hash) {
        long mixed = hash;
        for (int i = 0; i < state.row.length; i++) {
            mixed = mix(mixed, state.row.at(i));
        }
        for (int sign = 0; sign < SIGNS; sign++) {
            mixed = mix(mixed, state.timesInText(sign));
            mixed = mix(mixed, state.property(sign, 2));
            mixed = mix(mixed, state.property(sign, 3));
        }
        for (int name = SIGNS; name < PARTS; name++) {
            if (state.names.hasPart(name)) {
                mixed = mix(mixed, name);
                for (int what = 0; what <= 7; what++) {
                    mixed = mix(mixed, state.property(name, what));
                }
            }
        }
        return mixed;
    }

    private long mixBuffer(long hash) {
        long mixed = mix(hash, buffer.length);
        for (int i = 0; i < buffer.length; i++) {
            mixed = mix(mixed, buffer.at(i));
        }
        return mixed;
    }

    /**
     * The bits that Double.doubleToLongBits would give, which the program's Java leaves out. For
     * shares alone: each name and part is in the text, so the size is below twice its length, and a
     * share lies between -1 and 1. As 1.0 less something it is 0.0 or not nearer to 0 than 2 to the
     * power of -53, so 64 turns reach the leading bit.
     */
    private static long bitsOf(double share) {
        if (share == 0.0) {
            return 0L;
        }
        double rest = share < 0.0 ? -share : share;
        long exponent = 1023L;
        for (int i = 0; i < 64 && rest < 1.0; i++) {
            rest = rest * 2.0;
            exponent--;
        }
        long leadingBit = 1L << 52;
        long fraction = (long) (rest * (double) leadingBit) - leadingBit;
        long bits = (exponent << 52) + fraction;
        return share < 0.0 ? bits | 1L << 63 : bits;
    }

    // ---- the classes inside

    /** Numbers at fixed places. A place that there is not reads as NONE and is not written. */
    private static final class Cells {
        private final int[] values;

        Cells(int size) {
            values = new int[size < 0 ? 0 : size];
        }

        int at(int index) {
            return index >= 0 && index < values.length ? values[index] : NONE;
        }

        void put(int index, int value) {
            if (index >= 0 && index < values.length) {
                values[index] = value;
            }
        }

        void fill(int value) {
            for (int i = 0; i < values.length; i++) {
                values[i] = value;
            }
        }

        void copyFrom(Cells other) {
            for (int i = 0; i < values.length && i < other.values.length; i++) {
                values[i] = other.values[i];
            }
        }
    }

    /** The row of parts. */
    private static final class Row {
        private final int[] parts = new int[ROW_LIMIT];
        private int length;

        int at(int place) {
            return place >= 0 && place < length && place < parts.length ? parts[place] : NONE;
        }

        boolean takes(int more) {
            return more <= ROW_LIMIT - length;
        }

        void push(int part) {
            if (length >= 0 && length < parts.length) {
                parts[length] = part;
                length++;
            }
        }

        void shorten(int newLength) {
            if (newLength >= 0 && newLength < length) {
                length = newLength;
            }
        }

        void copyFrom(Row other) {
            length = 0;
            for (int i = 0; i < other.length; i++) {
                push(other.at(i));
            }
        }

        private void put(int place, int part) {
            if (place >= 0 && place < length && place < parts.length) {
                parts[place] = part;
            }
        }

        void replaceByTwo(int place, int first, int second) {
            if (!takes(1)) {
                return;
            }
            push(NONE);
            for (int i = length - 1; i > place + 1; i--) {
                put(i, at(i - 1));
            }
            put(place, first);
            put(place + 1, second);
        }

        /** Replaces a pair's occurrences from left to right, so that none overlaps another. */
        void replacePair(int first, int second, int name) {
            int kept = 0;
            int read = 0;
            while (read < length) {
                int part = at(read);
                if (part == first && at(read + 1) == second) {
                    part = name;
                    read++;
                }
                put(kept, part);
                kept++;
                read++;
            }
            shorten(kept);
        }

        int occurrences(int first, int second) {
            int found = 0;
            for (int i = 0; i + 1 < length; i++) {
                if (at(i) == first && at(i + 1) == second) {
                    found++;
                    i++;
                }
            }
            return found;
        }

        int usesOf(int part) {
            int uses = 0;
            for (int i = 0; i < length; i++) {
                if (at(i) == part) {
                    uses++;
                }
            }
            return uses;
        }

        int unlikeParts() {
            int unlike = 0;
            for (int part = 0; part < PARTS; part++) {
                if (usesOf(part) > 0) {
                    unlike++;
                }
            }
            return unlike;
        }
    }

    /**
     * The names with their pairs; each part has its place, a sign too. A pair never changes while
     * its name is there, so depth and length are computed once.
     */
    private static final class Names {
        private final Cells firsts = new Cells(PARTS);
        private final Cells seconds = new Cells(PARTS);
        private final Cells depths = new Cells(PARTS);
        private final Cells lengths = new Cells(PARTS);

        Names() {
            for (int part = 0; part < PARTS; part++) {
                firsts.put(part, NONE);
                seconds.put(part, NONE);
                lengths.put(part, part < SIGNS ? 1 : 0);
            }
        }

        void copyFrom(Names other) {
            firsts.copyFrom(other.firsts);
            seconds.copyFrom(other.seconds);
            depths.copyFrom(other.depths);
            lengths.copyFrom(other.lengths);
        }

        boolean hasPart(int part) {
            if (part < SIGNS) {
                return part >= 0;
            }
            return firsts.at(part) != NONE;
        }

        int amount() {
            int amount = 0;
            for (int name = SIGNS; name < PARTS; name++) {
                if (hasPart(name)) {
                    amount++;
                }
            }
            return amount;
        }

        void define(int name, int first, int second) {
            firsts.put(name, first);
            seconds.put(name, second);
            depths.put(name, 1 + Math.max(depths.at(first), depths.at(second)));
            lengths.put(name, lengths.at(first) + lengths.at(second));
        }

        void forget(int name) {
            firsts.put(name, NONE);
            seconds.put(name, NONE);
            depths.put(name, 0);
            lengths.put(name, 0);
        }

        /** The name that stands for the pair, else the lowest one that there is not, else NONE. */
        int nameFor(int first, int second) {
            int unused = NONE;
            for (int name = PARTS - 1; name >= SIGNS; name--) {
                if (firsts.at(name) == NONE) {
                    unused = name;
                } else if (firsts.at(name) == first && seconds.at(name) == second) {
                    return name;
                }
            }
            return unused;
        }

        int usesOf(int part) {
            int uses = 0;
            for (int name = SIGNS; name < PARTS; name++) {
                uses += firsts.at(name) == part ? 1 : 0;
                uses += seconds.at(name) == part ? 1 : 0;
            }
            return uses;
        }

        /** Walks down to the sign: each turn goes to a part of less depth. */
        int signIn(int part, int place) {
            int inner = part;
            int rest = place;
            for (int level = 0; level < NAMES && inner >= SIGNS; level++) {
                int first = firsts.at(inner);
                int width = lengths.at(first);
                if (rest < width) {
                    inner = first;
                } else {
                    rest -= width;
                    inner = seconds.at(inner);
                }
            }
            return inner;
        }
    }

    /** All that a saved state holds. */
    private static final class State {
        private final Row row = new Row();
        private final Names names = new Names();
        private final Cells settings = new Cells(SETTINGS);
        private int stepsSoFar;
        private int letGoSoFar;

        /** How often a sign is in each part; filled anew for each look, so it is not copied. */
        private final Cells timesIn = new Cells(PARTS);

        State() {
            settings.put(OFTEN, 2);
            settings.put(RARE, 2);
        }

        void copyFrom(State other) {
            row.copyFrom(other.row);
            names.copyFrom(other.names);
            settings.copyFrom(other.settings);
            stepsSoFar = other.stepsSoFar;
            letGoSoFar = other.letGoSoFar;
        }

        int usesOf(int part) {
            return row.usesOf(part) + names.usesOf(part);
        }

        int size() {
            return row.length + 2 * names.amount();
        }

        int textLength() {
            int length = 0;
            for (int i = 0; i < row.length; i++) {
                length += names.lengths.at(row.at(i));
            }
            return length;
        }

        int greatestDepth() {
            int greatest = 0;
            for (int i = 0; i < row.length; i++) {
                greatest = Math.max(greatest, names.depths.at(row.at(i)));
            }
            return greatest;
        }

        int signAt(int place) {
            int rest = place;
            for (int i = 0; i < row.length; i++) {
                int part = row.at(i);
                int width = names.lengths.at(part);
                if (rest < width) {
                    return names.signIn(part, rest);
                }
                rest -= width;
            }
            return NONE;
        }

        int timesInText(int sign) {
            timesIn.fill(0);
            timesIn.put(sign, 1);
            // A name may be lower than the names in its pair, so depth gives the order.
            for (int depth = 1; depth <= NAMES; depth++) {
                for (int name = SIGNS; name < PARTS; name++) {
                    if (names.depths.at(name) == depth) {
                        int first = timesIn.at(names.firsts.at(name));
                        timesIn.put(name, first + timesIn.at(names.seconds.at(name)));
                    }
                }
            }
            int times = 0;
            for (int i = 0; i < row.length; i++) {
                times += timesIn.at(row.at(i));
            }
            return times;
        }

        int property(int part, int what) {
            switch (what) {
                case 0:
                    return names.firsts.at(part);
                case 1:
                    return names.seconds.at(part);
                case 2:
                    return usesOf(part);
                case 3:
                    return row.usesOf(part);
                case 4:
                    return names.depths.at(part);
                case 5:
                    return names.lengths.at(part);
                case 6:
                    return names.signIn(part, 0);
                default:
                    return names.signIn(part, names.lengths.at(part) - 1);
            }
        }

        int total(int what) {
            switch (what) {
                case 0:
                    return row.length;
                case 1:
                    return names.amount();
                case 2:
                    return textLength();
                case 3:
                    return row.unlikeParts();
                case 4:
                    return greatestDepth();
                case 5:
                    return size();
                case 6:
                    return stepsSoFar;
                default:
                    return letGoSoFar;
            }
        }

        void openAt(int place) {
            int name = row.at(place);
            row.replaceByTwo(place, names.firsts.at(name), names.seconds.at(name));
        }

        /** The greatest depth first: a name is in the pairs of deeper names alone. */
        void forgetUnused() {
            for (int depth = NAMES; depth >= 1; depth--) {
                for (int name = SIGNS; name < PARTS; name++) {
                    if (names.depths.at(name) == depth && usesOf(name) == 0) {
                        names.forget(name);
                    }
                }
            }
        }

        int lowestToLetGo() {
            for (int name = SIGNS; name < PARTS; name++) {
                if (names.hasPart(name) && canLetGo(name)) {
                    return name;
                }
            }
            return NONE;
        }

        private boolean canLetGo(int name) {
            int uses = row.usesOf(name);
            return uses < settings.at(RARE) && names.usesOf(name) == 0 && row.takes(uses);
        }

        void release(int name) {
            for (int i = 0; i < ROW_LIMIT; i++) {
                if (row.at(i) == name) {
                    openAt(i);
                }
            }
            names.forget(name);
            letGoSoFar++;
        }
    }

    /** Finds and makes steps of naming. */
    private static final class Naming {
        private final Cells tallies = new Cells(PARTS * PARTS);
        private final Cells keys = new Cells(ROW_LIMIT);
        private int first = NONE;
        private int second = NONE;
        private int often = NONE;
        private int found = NONE;

        /** Finds the next step; all it tells is NONE if there is none. */
        void find(State state) {
            tally(state.row);
            choose(state.row);
            if (often >= state.settings.at(OFTEN)) {
                found = state.names.nameFor(first, second);
            } else {
                found = NONE;
            }
            if (found == NONE) {
                first = NONE;
                second = NONE;
                often = NONE;
            }
        }

        private void tally(Row row) {
            for (int i = 0; i + 1 < row.length; i++) {
                int key = row.at(i) * PARTS + row.at(i + 1);
                keys.put(i, key);
                tallies.put(key, 0);
            }
            int twin = NONE - 1;
            for (int i = 0; i + 1 < row.length; i++) {
                boolean alike = row.at(i) == row.at(i + 1);
                // Only a pair of like parts overlaps itself, and only with the one just before.
                if (!alike || twin != i - 1) {
                    int key = keys.at(i);
                    tallies.put(key, tallies.at(key) + 1);
                    twin = alike ? i : twin;
                }
            }
        }

        /** Keys are in the order of first parts, then of second parts, so the lowest one wins. */
        private void choose(Row row) {
            often = 0;
            int best = 0;
            for (int i = 0; i + 1 < row.length; i++) {
                int key = keys.at(i);
                int here = tallies.at(key);
                if (here > often || here == often && key < best) {
                    often = here;
                    best = key;
                    first = row.at(i);
                    second = row.at(i + 1);
                }
            }
        }

        int finding(int what) {
            switch (what) {
                case 0:
                    return first;
                case 1:
                    return second;
                case 2:
                    return often;
                default:
                    return found;
            }
        }

        /** Makes the step that was found in this state. */
        void apply(State state) {
            if (found == NONE) {
                return;
            }
            if (!state.names.hasPart(found)) {
                state.names.define(found, first, second);
            }
            state.row.replacePair(first, second, found);
            state.stepsSoFar++;
        }

        int applyAll(State state) {
            // Each step makes the row shorter.
            for (int made = 0; made < ROW_LIMIT; made++) {
                find(state);
                if (found == NONE) {
                    return made;
                }
                apply(state);
            }
            return ROW_LIMIT;
        }
    }

    /** The input text. */
    private static final class Buffer {
        private final Cells codes = new Cells(BUFFER_LIMIT);
        private int length;

        int at(int index) {
            return index < length ? codes.at(index) : NONE;
        }

        void push(int code) {
            if (length < BUFFER_LIMIT) {
                codes.put(length, code);
                length++;
            }
        }

        void empty() {
            length = 0;
        }

        private boolean isLetter(int index) {
            return at(index) >= 'a' && at(index) <= 'h';
        }

        private boolean isNumber(int index) {
            return at(index) >= '2' && at(index) <= '9';
        }

        int firstWrong() {
            for (int i = 0; i < length; i++) {
                if (!isLetter(i) && !(isNumber(i) && isLetter(i - 1))) {
                    return i;
                }
            }
            return length;
        }

        /** Where no character is wrong, only a text without letters is not complete. */
        boolean isText() {
            return length > 0 && firstWrong() == length;
        }

        /** How often the letter at this place stands there, 0 if it is no letter. */
        private int timesAt(int index) {
            if (!isLetter(index)) {
                return 0;
            }
            return isNumber(index + 1) ? at(index + 1) - '0' : 1;
        }

        int signAmount() {
            int amount = 0;
            for (int i = 0; i < length; i++) {
                amount += timesAt(i);
            }
            return amount;
        }

        void writeBehind(Row row) {
            for (int i = 0; i < length; i++) {
                int times = timesAt(i);
                for (int k = 0; k < times; k++) {
                    row.push(at(i) - 'a');
                }
            }
        }
    }

    /** The saved states, in a ring: the next one is written over the oldest one. */
    private static final class History {
        private final State[] states = new State[SAVED_LIMIT];
        private int amount;
        private int free;

        History() {
            for (int i = 0; i < states.length; i++) {
                states[i] = new State();
            }
        }

        void save(State state) {
            State kept = free >= 0 && free < states.length ? states[free] : null;
            if (kept != null) {
                kept.copyFrom(state);
                free = free + 1 < SAVED_LIMIT ? free + 1 : 0;
                amount = Math.min(amount + 1, SAVED_LIMIT);
            }
        }

        void restore(State state) {
            int latest = free > 0 ? free - 1 : SAVED_LIMIT - 1;
            State kept = latest >= 0 && latest < states.length ? states[latest] : null;
            if (kept != null && amount > 0) {
                state.copyFrom(kept);
                free = latest;
                amount--;
            }
        }
    }
}
