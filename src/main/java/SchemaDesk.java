/**
 * Types that may be made of one another in rings, bytes read and written by them, and one type
 * resolved to another. What each public method must do stands in DOC.md under its name.
 *
 * Nothing here calls itself: values within values are kept on a stack of frames, pairs of types
 * in a queue. What goes wrong first is kept in "trouble", and later troubles do not change it.
 */
public final class SchemaDesk {
    public static final int REFUSED = -1, SHORT = -2, BAD = -3, MUCH = -4, DEEP = -5, MISMATCH = -6, FULL = -7, LEFT = -8;

    private static final int NULL = 0, BOOL = 1, INT = 2, LONG = 3, TEXT = 4;
    private static final int ENUM = 5, FIXED = 6, ARRAY = 7, UNION = 8, RECORD = 9;

    private static final int NONE = -1, FINE = 0;
    private static final int TYPES = 20, PARTS = 5, ALL_PARTS = TYPES * PARTS, NAMES = 16;
    private static final int FIXED_SIZE = 8, TEXT_LENGTH = 20, ITEMS = 40;
    private static final int ROOM = 100, LIST_ROOM = 150, VALUES = 400, NESTED = 10;
    private static final int LONG_BYTES = 10, BYTE_HIGH = 255;
    private static final long INT_LOW = -2147483648L, INT_HIGH = 2147483647L;
    private static final long LONG_LOW = 1L << 63, LONG_HIGH = ~LONG_LOW;

    // Far above what a walk needs: at most 400 values with 100 blocks, or some 100000 steps of resolving.
    private static final int STEPS = 1000000;
    // A default record that begins within n others is value DEFAULTS + n, behind those that were read.
    private static final int DEFAULTS = VALUES, OUTCOMES = (VALUES + NESTED) * TYPES;
    // In pairs, a default stands where else a type of the writer does.
    private static final int DEFAULT = TYPES, PAIRS = (TYPES + 1) * TYPES;

    private int typeCount = 0;
    private final int[] kindOf = new int[TYPES];
    private final int[] detailOf = new int[TYPES]; // the size of a FIXED, the type within an ARRAY
    private final int[] fallbackOf = new int[TYPES];
    private final int[] partCount = new int[TYPES];
    private final int[] partName = new int[ALL_PARTS];
    private final int[] partType = new int[ALL_PARTS];
    private final int[] partAlias = new int[ALL_PARTS];
    private final boolean[] partHas = new boolean[ALL_PARTS];
    private final int[] partDefault = new int[ALL_PARTS];

    private int byteCount = 0;
    private final int[] bytes = new int[ROOM];
    private int numberCount = 0;
    private final long[] numbers = new long[ROOM];
    private int listCount = 0;
    private final long[] list = new long[LIST_ROOM];

    private int trouble = FINE;
    private int place = 0; // the next byte in reading, the next number in writing

    // What was read, a value before those within it: its parts begin right behind it.
    private int valueCount = 0;
    private final int[] valueType = new int[VALUES];
    private final long[] valueNumber = new long[VALUES];
    private final int[] valueFrom = new int[VALUES]; // the first of its bytes, for TEXT and FIXED
    private final int[] valueAfter = new int[VALUES]; // the first value that is not within it

    // Every frame of reading and writing is a value that has begun. In resolving there are at most
    // 10 RECORDs, and ARRAYs that each have a number in the list. So VALUES frames are enough.
    private int top = 0;
    private int records = 0;
    private final int[] frameValue = new int[VALUES]; // NONE in writing, where no values are kept
    private final int[] frameType = new int[VALUES];
    private final int[] frameStep = new int[VALUES]; // the next part; resolving an ARRAY, the next value
    private final int[] frameLeft = new int[VALUES];
    private final int[] frameStart = new int[VALUES]; // how long the list was when the frame began
    private final boolean[] addsNothing = new boolean[OUTCOMES];

    private int writtenCount = 0;
    private final int[] written = new int[ROOM];

    private int pairCount = 0;
    private final int[] pairs = new int[PAIRS];
    private final boolean[] pairSeen = new boolean[PAIRS];

    public SchemaDesk() {
    }

    // ---- types ----

    public int type(int kind, int a) {
        if (typeCount == TYPES || kind < NULL || kind > RECORD) return REFUSED;
        if (kind == FIXED && (a < 0 || a > FIXED_SIZE)) return REFUSED;
        if (kind == ARRAY && !isType(a)) return REFUSED;
        kindOf[typeCount] = kind;
        detailOf[typeCount] = a;
        fallbackOf[typeCount] = NONE;
        typeCount++;
        return typeCount - 1;
    }

    public int symbol(int t, int name) {
        if (!takesPart(t, ENUM) || !isName(name)) return REFUSED;
        if (partNamed(t, name) != NONE) return REFUSED;
        return addPart(t, name, NONE, NONE, false, 0);
    }

    public boolean fallback(int t, int name) {
        if (!isType(t) || kindOf[t] != ENUM) return false;
        if (name != NONE && partNamed(t, name) == NONE) return false;
        fallbackOf[t] = name;
        return true;
    }

    public int branch(int t, int u) {
        if (!takesPart(t, UNION) || !isType(u) || kindOf[u] == UNION) return REFUSED;
        return addPart(t, NONE, u, NONE, false, 0);
    }

    public int field(int t, int name, int u, int alias, boolean has, int v) {
        if (!takesPart(t, RECORD) || !isType(u) || !isName(name)) return REFUSED;
        if (alias != NONE && !isName(alias)) return REFUSED;
        if (partNamed(t, name) != NONE) return REFUSED;
        return addPart(t, name, u, alias, has, v);
    }

    private boolean isType(int t) {
        return t >= 0 && t < typeCount;
    }

    private boolean isName(int name) {
        return name >= 0 && name < NAMES;
    }

    private boolean takesPart(int t, int kind) {
        return isType(t) && kindOf[t] == kind && partCount[t] < PARTS;
    }

    private int addPart(int t, int name, int u, int alias, boolean has, int v) {
        int part = t * PARTS + partCount[t];
        partName[part] = name;
        partType[part] = u;
        partAlias[part] = alias;
        partHas[part] = has;
        partDefault[part] = v;
        partCount[t]++;
        return partCount[t];
    }

    /** The number of the symbol or field of that name, or NONE. */
    private int partNamed(int t, int name) {
        for (int k = 0; k < partCount[t]; k++) {
            if (partName[t * PARTS + k] == name) return k;
        }
        return NONE;
    }

    // ---- bytes, numbers and the result ----

    public int add(int b) {
        if (b < 0 || b > BYTE_HIGH || byteCount == ROOM) return REFUSED;
        bytes[byteCount] = b;
        byteCount++;
        return byteCount;
    }

    public int at(int k) {
        return k >= 0 && k < byteCount ? bytes[k] : REFUSED;
    }

    public int wipe(boolean numbers) {
        int were = numbers ? numberCount : byteCount;
        if (numbers) numberCount = 0;
        else byteCount = 0;
        return were;
    }

    public int number(long v) {
        if (numberCount == ROOM) return REFUSED;
        numbers[numberCount] = v;
        numberCount++;
        return numberCount;
    }

    public long result(int k) {
        if (k == -1) return listCount;
        return k >= 0 && k < listCount ? list[k] : REFUSED;
    }

    // ---- what reading, writing and resolving share ----

    private void fail(int code) {
        if (trouble == FINE) trouble = code;
    }

    private void startWalk() {
        trouble = FINE;
        place = 0;
        valueCount = 0;
        top = 0;
        records = 0;
    }

    /** Counts a value of type t that is to be read or written, and tells whether it may begin. */
    private boolean beginValue(int t) {
        if (valueCount == VALUES) fail(MUCH);
        else if (kindOf[t] == RECORD && records == NESTED) fail(DEEP);
        else valueCount++;
        return trouble == FINE;
    }

    private void push(int value, int t, int step, int left) {
        frameValue[top] = value;
        frameType[top] = t;
        frameStep[top] = step;
        frameLeft[top] = left;
        frameStart[top] = listCount;
        top++;
        if (kindOf[t] == RECORD) records++;
    }

    private void pop() {
        top--;
        if (kindOf[frameType[top]] == RECORD) records--;
    }

    /** Goes on to the next part of a UNION or RECORD and tells which one of all parts it is. */
    private int nextPart(int f) {
        int part = frameType[f] * PARTS + frameStep[f];
        frameStep[f]++;
        frameLeft[f]--;
        return part;
    }

    /** Goes on to the next value within a frame of reading or writing and tells its type. */
    private int nextType(int f) {
        int t = frameType[f];
        if (kindOf[t] == ARRAY) {
            frameLeft[f]--;
            return detailOf[t];
        }
        int part = nextPart(f);
        return partType[part];
    }

    // ---- reading ----

    public int read(int w, int r) {
        if (!isType(w) || !isType(r)) return REFUSED;
        listCount = 0;
        readAll(w);
        if (trouble == FINE) resolveAll(r);
        if (trouble == FINE) return place;
        listCount = 0;
        return trouble;
    }

    private void readAll(int w) {
        startWalk();
        readValue(w);
        for (int i = 0; i < STEPS && top > 0 && trouble == FINE; i++) {
            int f = top - 1;
            if (frameLeft[f] > 0) {
                int t = nextType(f);
                readValue(t);
            } else if (kindOf[frameType[f]] == ARRAY) {
                readBlock(f);
            } else {
                endRead(f);
            }
        }
    }

    private void readValue(int t) {
        if (!beginValue(t)) return;
        int value = valueCount - 1;
        valueType[value] = t;
        valueNumber[value] = 0;
        valueAfter[value] = valueCount;
        switch (kindOf[t]) {
            case BOOL:
                readBool(value);
                break;
            case INT:
                valueNumber[value] = readWithin(INT_LOW, INT_HIGH);
                break;
            case LONG:
                valueNumber[value] = readLong();
                break;
            case TEXT:
                valueNumber[value] = readWithin(0, TEXT_LENGTH);
                readBytes(value, (int) valueNumber[value]);
                break;
            case ENUM:
                int symbol = (int) readWithin(0, partCount[t] - 1);
                valueNumber[value] = partName[t * PARTS + symbol];
                break;
            case FIXED:
                readBytes(value, detailOf[t]);
                break;
            case ARRAY:
                push(value, t, 0, 0);
                break;
            case UNION:
                int branch = (int) readWithin(0, partCount[t] - 1);
                push(value, t, branch, 1);
                break;
            case RECORD:
                push(value, t, 0, partCount[t]);
                break;
            default:
                break;
        }
    }

    /** Between the blocks of an ARRAY: the head of the next one, or the end. */
    private void readBlock(int f) {
        int value = frameValue[f];
        long n = readLong();
        long items = n < 0 ? -n : n;
        // The lowest long is still below 0 when it is negated.
        if (items < 0 || items > ITEMS - valueNumber[value]) fail(MUCH);
        else if (n < 0) readLong();
        if (trouble != FINE) return;
        valueNumber[value] += items;
        frameLeft[f] = (int) items;
        if (items == 0) endRead(f);
    }

    private void endRead(int f) {
        valueAfter[frameValue[f]] = valueCount;
        pop();
    }

    private void readBool(int value) {
        readBytes(value, 1);
        if (trouble != FINE) return;
        valueNumber[value] = bytes[valueFrom[value]];
        if (valueNumber[value] > 1) fail(BAD);
    }

    private void readBytes(int value, int size) {
        valueFrom[value] = place;
        if (size > byteCount - place) fail(SHORT);
        else place += size;
    }

    /** A LONG within bounds; low if there is none, so that low = 0 is always a place to look at. */
    private long readWithin(long low, long high) {
        long v = readLong();
        if (trouble == FINE && (v < low || v > high)) fail(BAD);
        return trouble == FINE ? v : low;
    }

    private long readLong() {
        long u = 0;
        for (int i = 0; i < LONG_BYTES; i++) {
            if (place == byteCount) {
                fail(SHORT);
                return 0;
            }
            int b = bytes[place];
            place++;
            if (i == LONG_BYTES - 1 && b > 1) {
                fail(BAD);
                return 0;
            }
            u |= (long) (b & 127) << (7 * i);
            if (b < 128) break;
        }
        return (u >>> 1) ^ -(u & 1);
    }

    // ---- resolving ----

    private void resolveAll(int r) {
        for (int i = 0; i < OUTCOMES; i++) addsNothing[i] = false;
        resolveValue(0, r);
        for (int i = 0; i < STEPS && top > 0 && trouble == FINE; i++) {
            int f = top - 1;
            int t = frameType[f];
            if (frameLeft[f] == 0) {
                endResolved(f);
            } else if (kindOf[t] == ARRAY) {
                int item = nextItem(f);
                resolveValue(item, detailOf[t]);
            } else {
                int part = nextPart(f);
                int source = sourceOf(frameValue[f], part);
                if (source == NONE) putDefaultOf(part);
                else resolveValue(source, partType[part]);
            }
        }
    }

    private int nextItem(int f) {
        int item = frameStep[f];
        frameStep[f] = valueAfter[item];
        frameLeft[f]--;
        return item;
    }

    /** The value within a RECORD that was read from which a field of r comes, or NONE. */
    private int sourceOf(int value, int part) {
        if (value >= DEFAULTS) return NONE;
        int k = fieldFor(valueType[value], part);
        if (k == NONE) return NONE;
        int source = value + 1;
        for (int i = 0; i < k; i++) source = valueAfter[source];
        return source;
    }

    /** Which field of the RECORD w a field of r comes from, or NONE. */
    private int fieldFor(int w, int part) {
        int k = partNamed(w, partName[part]);
        if (k == NONE && partAlias[part] != NONE) k = partNamed(w, partAlias[part]);
        return k;
    }

    private boolean suits(int w, int r) {
        if (kindOf[w] == INT && kindOf[r] == LONG) return true;
        if (kindOf[w] != kindOf[r]) return false;
        return kindOf[w] != FIXED || detailOf[w] == detailOf[r];
    }

    /** The first branch of the UNION r that w suits, or NONE. */
    private int branchFor(int w, int r) {
        for (int k = 0; k < partCount[r]; k++) {
            if (suits(w, partType[r * PARTS + k])) return k;
        }
        return NONE;
    }

    private void resolveValue(int given, int r) {
        // A branch is no UNION, so one step within is enough.
        int value = kindOf[valueType[given]] == UNION ? given + 1 : given;
        int w = valueType[value];
        if (kindOf[r] == UNION) {
            int branch = branchFor(w, r);
            if (branch == NONE) {
                fail(MISMATCH);
                return;
            }
            put(branch);
            putValue(value, partType[r * PARTS + branch]);
        } else if (suits(w, r)) {
            putValue(value, r);
        } else {
            fail(MISMATCH);
        }
    }

    /** The list of a value that was read and is no UNION, for a type t that it suits. */
    private void putValue(int value, int t) {
        switch (kindOf[t]) {
            case TEXT:
                put(valueNumber[value]);
                putBytes(value, (int) valueNumber[value]);
                break;
            case ENUM:
                putSymbol(t, (int) valueNumber[value]);
                break;
            case FIXED:
                putBytes(value, detailOf[t]);
                break;
            case ARRAY:
                put(valueNumber[value]);
                push(value, t, value + 1, (int) valueNumber[value]);
                break;
            case RECORD:
                beginRecord(value, t);
                break;
            default:
                put(valueNumber[value]);
                break;
        }
    }

    private void put(long v) {
        if (listCount < LIST_ROOM) {
            list[listCount] = v;
            listCount++;
        } else if (trouble == FINE) {
            trouble = FULL;
        }
    }

    private void putBytes(int value, int size) {
        for (int i = 0; i < size; i++) put(bytes[valueFrom[value] + i]);
    }

    private void putSymbol(int t, int name) {
        int kept = partNamed(t, name) != NONE ? name : fallbackOf[t];
        if (kept == NONE) fail(MISMATCH);
        else put(kept);
    }

    /**
     * Fields of r may all come from one field of w, and records of defaults from one another, five
     * times at each of ten levels; if they add no number, FULL does not end that. So a record that
     * was seen to add nothing isn't gone through again.
     */
    private void beginRecord(int value, int t) {
        if (records == NESTED) fail(DEEP);
        else if (!addsNothing[value * TYPES + t]) push(value, t, 0, partCount[t]);
    }

    private void endResolved(int f) {
        int t = frameType[f];
        if (kindOf[t] == RECORD && frameStart[f] == listCount) addsNothing[frameValue[f] * TYPES + t] = true;
        pop();
    }

    private void putDefaultOf(int part) {
        int u = partType[part];
        if (!partHas[part]) {
            fail(MISMATCH);
        } else if (kindOf[u] != UNION) {
            putDefault(u, partDefault[part]);
        } else if (partCount[u] == 0) {
            fail(MISMATCH);
        } else {
            put(0);
            putDefault(partType[u * PARTS], partDefault[part]);
        }
    }

    /** The default v of a type t that is no UNION. */
    private void putDefault(int t, int v) {
        switch (kindOf[t]) {
            case BOOL:
                put(v & 1);
                break;
            case INT:
            case LONG:
                put(v);
                break;
            case TEXT:
                put(1);
                put(v & BYTE_HIGH);
                break;
            case ENUM:
                putDefaultSymbol(t, v);
                break;
            case FIXED:
                for (int i = 0; i < detailOf[t]; i++) put(v & BYTE_HIGH);
                break;
            case RECORD:
                beginRecord(DEFAULTS + records, t);
                break;
            default:
                put(0);
                break;
        }
    }

    private void putDefaultSymbol(int t, int v) {
        int count = partCount[t];
        if (count == 0) {
            fail(MISMATCH);
            return;
        }
        int k = v % count;
        if (k < 0) k += count;
        put(partName[t * PARTS + k]);
    }

    // ---- writing ----

    public int write(int t) {
        if (!isType(t)) return REFUSED;
        writeAll(t);
        if (place < numberCount) fail(LEFT);
        if (trouble != FINE) return trouble;
        for (int i = 0; i < writtenCount; i++) bytes[i] = written[i];
        byteCount = writtenCount;
        return byteCount;
    }

    private void writeAll(int t) {
        startWalk();
        writtenCount = 0;
        writeValue(t);
        for (int i = 0; i < STEPS && top > 0 && trouble == FINE; i++) {
            int f = top - 1;
            if (frameLeft[f] > 0) {
                int u = nextType(f);
                writeValue(u);
            } else {
                if (kindOf[frameType[f]] == ARRAY) writeLong(0);
                pop();
            }
        }
    }

    private void writeValue(int t) {
        if (!beginValue(t)) return;
        long v;
        switch (kindOf[t]) {
            case NULL:
                takeNumber(0, 0);
                break;
            case BOOL:
                v = takeNumber(0, 1);
                writeByte((int) v);
                break;
            case INT:
                v = takeNumber(INT_LOW, INT_HIGH);
                writeLong(v);
                break;
            case LONG:
                v = takeNumber(LONG_LOW, LONG_HIGH);
                writeLong(v);
                break;
            case TEXT:
                v = takeNumber(0, TEXT_LENGTH);
                writeLong(v);
                writeBytes((int) v);
                break;
            case ENUM:
                writeSymbol(t);
                break;
            case FIXED:
                writeBytes(detailOf[t]);
                break;
            case ARRAY:
                v = takeNumber(0, ITEMS);
                if (v > 0) writeLong(v);
                push(NONE, t, 0, (int) v);
                break;
            case UNION:
                v = takeNumber(0, partCount[t] - 1);
                writeLong(v);
                push(NONE, t, (int) v, 1);
                break;
            default:
                push(NONE, t, 0, partCount[t]);
                break;
        }
    }

    /** The next number, which must be within bounds; low if it is not, or there is none. */
    private long takeNumber(long low, long high) {
        if (place == numberCount) {
            fail(SHORT);
            return low;
        }
        long v = numbers[place];
        place++;
        if (v >= low && v <= high) return v;
        fail(BAD);
        return low;
    }

    private void writeSymbol(int t) {
        long name = takeNumber(0, NAMES - 1);
        int symbol = partNamed(t, (int) name);
        if (symbol == NONE) fail(BAD);
        else writeLong(symbol);
    }

    private void writeBytes(int size) {
        for (int i = 0; i < size; i++) {
            long b = takeNumber(0, BYTE_HIGH);
            writeByte((int) b);
        }
    }

    private void writeLong(long v) {
        long u = (v << 1) ^ (v >> 63);
        for (int i = 0; i < LONG_BYTES; i++) {
            long rest = u >>> 7;
            int low = (int) (u & 127);
            writeByte(rest == 0 ? low : low + 128);
            if (rest == 0) break;
            u = rest;
        }
    }

    private void writeByte(int b) {
        if (writtenCount < ROOM) {
            written[writtenCount] = b;
            writtenCount++;
        } else if (trouble == FINE) {
            trouble = FULL;
        }
    }

    // ---- pairs of types ----

    private void startPairs(int a, int b) {
        for (int i = 0; i < PAIRS; i++) pairSeen[i] = false;
        pairCount = 0;
        addPair(a, b);
    }

    /** A pair that was seen already isn't looked at again: that is what ends the rings. */
    private void addPair(int a, int b) {
        int pair = a * TYPES + b;
        if (pairSeen[pair]) return;
        pairSeen[pair] = true;
        pairs[pairCount] = pair;
        pairCount++;
    }

    // ---- safe ----

    public int safe(int w, int r) {
        if (!isType(w) || !isType(r)) return REFUSED;
        startPairs(w, r);
        for (int i = 0; i < PAIRS && i < pairCount; i++) {
            int from = pairs[i] / TYPES;
            int to = pairs[i] % TYPES;
            boolean fits = from == DEFAULT ? defaultFits(to) : pairFits(from, to);
            if (!fits) return 0;
        }
        return 1;
    }

    /** False if w to r is a MISMATCH itself; the pairs to which it leads are added. */
    private boolean pairFits(int w, int r) {
        if (kindOf[w] == UNION) {
            for (int k = 0; k < partCount[w]; k++) addPair(partType[w * PARTS + k], r);
            return true;
        }
        if (kindOf[r] == UNION) {
            int branch = branchFor(w, r);
            if (branch != NONE) addPair(w, partType[r * PARTS + branch]);
            return branch != NONE;
        }
        if (!suits(w, r)) return false;
        if (kindOf[r] == ENUM) return symbolsFit(w, r);
        if (kindOf[r] == RECORD) return fieldsFit(w, r);
        if (kindOf[r] == ARRAY) addPair(detailOf[w], detailOf[r]);
        return true;
    }

    private boolean symbolsFit(int w, int r) {
        if (fallbackOf[r] != NONE) return true;
        for (int k = 0; k < partCount[w]; k++) {
            if (partNamed(r, partName[w * PARTS + k]) == NONE) return false;
        }
        return true;
    }

    private boolean fieldsFit(int w, int r) {
        for (int k = 0; k < partCount[r]; k++) {
            int part = r * PARTS + k;
            int source = fieldFor(w, part);
            if (source != NONE) addPair(partType[w * PARTS + source], partType[part]);
            else if (partHas[part]) addPair(DEFAULT, partType[part]);
            else return false;
        }
        return true;
    }

    private boolean defaultFits(int t) {
        if (kindOf[t] == ENUM) return partCount[t] > 0;
        if (kindOf[t] == UNION) {
            if (partCount[t] > 0) addPair(DEFAULT, partType[t * PARTS]);
            return partCount[t] > 0;
        }
        if (kindOf[t] != RECORD) return true;
        for (int k = 0; k < partCount[t]; k++) {
            int part = t * PARTS + k;
            if (!partHas[part]) return false;
            addPair(DEFAULT, partType[part]);
        }
        return true;
    }

    // ---- same and different ----

    public int same(int t, int u) {
        if (!isType(t) || !isType(u)) return REFUSED;
        return isAlike(t, u) ? 1 : 0;
    }

    public int different() {
        int count = 0;
        for (int t = 0; t < typeCount; t++) {
            if (!isAlikeEarlier(t)) count++;
        }
        return count;
    }

    private boolean isAlikeEarlier(int t) {
        for (int u = 0; u < t; u++) {
            if (isAlike(t, u)) return true;
        }
        return false;
    }

    private boolean isAlike(int t, int u) {
        startPairs(t, u);
        for (int i = 0; i < PAIRS && i < pairCount; i++) {
            if (!looksAlike(pairs[i] / TYPES, pairs[i] % TYPES)) return false;
        }
        return true;
    }

    /** Whether two types are the same but for the types of their parts; the pairs of these are added. */
    private boolean looksAlike(int t, int u) {
        int kind = kindOf[t];
        if (kind != kindOf[u] || partCount[t] != partCount[u] || fallbackOf[t] != fallbackOf[u]) return false;
        if (kind == FIXED) return detailOf[t] == detailOf[u];
        if (kind == ARRAY) addPair(detailOf[t], detailOf[u]);
        for (int k = 0; k < partCount[t]; k++) {
            int p = t * PARTS + k;
            int q = u * PARTS + k;
            if (!partsAlike(p, q)) return false;
            if (kind != ENUM) addPair(partType[p], partType[q]);
        }
        return true;
    }

    private boolean partsAlike(int p, int q) {
        if (partName[p] != partName[q] || partAlias[p] != partAlias[q]) return false;
        if (partHas[p] != partHas[q]) return false;
        return !partHas[p] || partDefault[p] == partDefault[q];
    }
}
