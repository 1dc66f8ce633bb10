import java.util.Arrays;

/**
 * Terms, THE LIST and BYTES, and promises 7 to 13, 17: the edges that the document names, one after
 * the other. Above each test stands the sentence that it looks at.
 */
public final class EdgesOfBytesTest {
    private static final int REFUSED = SchemaDesk.REFUSED;
    private static final int SHORT = SchemaDesk.SHORT;
    private static final int BAD = SchemaDesk.BAD;
    private static final int MUCH = SchemaDesk.MUCH;
    private static final int LEFT = SchemaDesk.LEFT;
    private static final int LOW = Integer.MIN_VALUE;
    private static final int HIGH = Integer.MAX_VALUE;
    private static final int NULL = 0, BOOL = 1, INT = 2, LONG = 3, TEXT = 4;
    private static final int ENUM = 5, FIXED = 6, ARRAY = 7, UNION = 8, RECORD = 9;
    /** Numbers that would be small ones if their upper half were cut off, and the outermost ones. */
    private static final long[] FAR = {1L << 32, -1L << 32, 1L + HIGH, -1L + LOW, Long.MIN_VALUE, Long.MAX_VALUE};

    public static void main(String[] args) {
        nulls();
        bools();
        ints();
        longs();
        longsWithZerosAtTheEnd();
        theTenthByte();
        theTenthByteOfOtherNumbers();
        texts();
        textBytes();
        enums();
        fixeds();
        unions();
        records();
        arrays();
        blocks();
        sizesThatSayNothing();
        moreThanForty();
        asSoonAsNSaysSo();
        oneBlockAndZero();
        shortBehindTheHundredth();
        add();
        at();
        wipe();
        number();
        othersMayFollow();
        readRefused();
        readingChangesNothingElse();
        resultOfTheLatestRead();
        noResult();
        writeRefused();
        bytesTakeThePlaceOfAllBytes();
        nothingChanges();
        left();
        fiveHundredTwelveCalls();
        Check.end();
    }

    private static SchemaDesk of(int kind) {
        SchemaDesk x = new SchemaDesk();
        x.type(kind, 0);
        return x;
    }

    private static int[] longBytes(long v) {
        int[] bytes = new int[10];
        java.math.BigInteger u = java.math.BigInteger.valueOf(v).shiftLeft(1);
        if (v < 0) u = u.negate().subtract(java.math.BigInteger.ONE);
        int count = 0;
        do {
            java.math.BigInteger rest = u.shiftRight(7);
            bytes[count] = u.intValue() & 127 | (rest.signum() == 0 ? 0 : 128);
            u = rest;
            count++;
        } while (u.signum() != 0);
        return Arrays.copyOf(bytes, count);
    }

    /** Zeros at the end, until there are that many bytes. */
    private static int[] padded(int[] bytes, int count) {
        int[] longer = Arrays.copyOf(bytes, count);
        for (int i = bytes.length - 1; i < count - 1; i++) longer[i] += 128;
        return longer;
    }

    private static int[] joined(int[]... rows) {
        int[] all = new int[0];
        for (int[] row : rows) {
            int from = all.length;
            all = Arrays.copyOf(all, from + row.length);
            System.arraycopy(row, 0, all, from, row.length);
        }
        return all;
    }

    /** A value's list and bytes, written and read back, whole, with one too few, and one too many. */
    private static void both(String what, SchemaDesk x, int t, long[] list, int... bytes) {
        Check.writes(what, x, t, list, bytes);
        if (list.length < 100) {
            x.number(0);
            Check.due(what + ", a number more", x.write(t), LEFT);
        }
        if (list.length > 0) {
            Check.setNumbers(x, Arrays.copyOf(list, list.length - 1));
            Check.due(what + ", a number less", x.write(t), SHORT);
        }
        Check.reads(what, x, t, t, bytes, list);
        if (bytes.length < 100) {
            x.add(255);
            Check.due(what + ", a byte more", x.read(t, t), bytes.length);
        }
        if (bytes.length > 0) Check.readFails(what + ", a byte less", x, t, t, SHORT, Arrays.copyOf(bytes, bytes.length - 1));
    }

    // ---- the list, and the bytes, of each kind ----

    /** "NULL 0"; "NULL: no byte". */
    private static void nulls() {
        SchemaDesk x = of(NULL);
        both("NULL", x, 0, Check.row(0));
        Check.writeFails("1", x, 0, BAD, 1);
        Check.writeFails("-1", x, 0, BAD, -1);
        for (long v : FAR) Check.writeFails("" + v, x, 0, BAD, v);
    }

    /** "BOOL 0 or 1"; "BOOL: a byte, 0 or 1 (else BAD)". */
    private static void bools() {
        SchemaDesk x = of(BOOL);
        both("false", x, 0, Check.row(0), 0);
        both("true", x, 0, Check.row(1), 1);
        Check.writeFails("2", x, 0, BAD, 2);
        Check.writeFails("-1", x, 0, BAD, -1);
        for (long v : FAR) Check.writeFails("" + v, x, 0, BAD, v);
        int[] wrong = {2, 3, 127, 128, 129, 255};
        for (int b : wrong) Check.readFails("byte " + b, x, 0, 0, BAD, b, 0);
    }

    /** "INT ... the number"; "INT likewise (BAD if it is no int)". */
    private static void ints() {
        long[] good = {0, -1, 1, -64, 63, 64, -65, HIGH, LOW};
        for (long v : good) both("INT " + v, of(INT), 0, Check.row(v), longBytes(v));
        for (long v : FAR) {
            SchemaDesk x = of(INT);
            Check.writeFails("INT " + v, x, 0, BAD, v);
            Check.readFails("INT " + v, x, 0, 0, BAD, longBytes(v));
        }
        Check.reads("zeros at the end", of(INT), 0, 0, padded(longBytes(HIGH), 10), HIGH);
        Check.readFails("one above, with zeros at the end", of(INT), 0, 0, BAD, padded(longBytes(1L + HIGH), 10));
    }

    /** "A LONG v: u = 2 v, or -2 v - 1 if v is below 0 ... seven bits after the other, the lowest first". */
    private static void longs() {
        for (int count = 1; count < 10; count++) {
            long half = 1L << (7 * count - 1);
            int[] bytes = new int[count];
            Arrays.fill(bytes, 255);
            bytes[count - 1] -= 128;
            both(count + " bytes, the lowest", of(LONG), 0, Check.row(-half), bytes);
            bytes[0]--;
            both(count + " bytes, the highest", of(LONG), 0, Check.row(half - 1), bytes);
            bytes = new int[count + 1];
            Arrays.fill(bytes, 128);
            bytes[count] = 1;
            both(count + " bytes, one above", of(LONG), 0, Check.row(half), bytes);
            bytes[0]++;
            both(count + " bytes, one below", of(LONG), 0, Check.row(-half - 1), bytes);
        }
        both("the highest", of(LONG), 0, Check.row(Long.MAX_VALUE), 254, 255, 255, 255, 255, 255, 255, 255, 255, 1);
        both("the lowest", of(LONG), 0, Check.row(Long.MIN_VALUE), 255, 255, 255, 255, 255, 255, 255, 255, 255, 1);
        both("0", of(LONG), 0, Check.row(0), 0);
        both("-1", of(LONG), 0, Check.row(-1), 1);
        both("1", of(LONG), 0, Check.row(1), 2);
    }

    /** "read back it may have up to ten bytes, zeros at the end too". */
    private static void longsWithZerosAtTheEnd() {
        long[] values = {0, -1, 1, 63, -65, HIGH, LOW, (1L << 55) - 1, -1L << 62};
        for (long v : values) {
            int[] bytes = longBytes(v);
            for (int count = bytes.length; count <= 10; count++) {
                SchemaDesk x = of(LONG);
                Check.reads(v + " in " + count + " bytes", x, 0, 0, padded(bytes, count), v);
                x.add(0);
                Check.due(v + " in " + count + " bytes, and another", x.read(0, 0), count);
            }
            Check.readFails(v + " in 11 bytes", of(LONG), 0, 0, BAD, padded(bytes, 11));
        }
    }

    /** "but the tenth must be 0 or 1 (BAD else)". */
    private static void theTenthByte() {
        int[] bytes = {128, 128, 128, 128, 128, 128, 128, 128, 128, 0};
        Check.reads("0", of(LONG), 0, 0, bytes, 0);
        bytes[9] = 1;
        Check.reads("1", of(LONG), 0, 0, bytes, 1L << 62);
        for (int b = 2; b < 256; b++) {
            SchemaDesk x = of(LONG);
            bytes[9] = b;
            Check.setBytes(x, bytes);
            Check.due("tenth " + b, x.read(0, 0), BAD);
        }
        Check.readFails("no tenth", of(LONG), 0, 0, SHORT, Arrays.copyOf(bytes, 9));
        int[] ninth = {255, 255, 255, 255, 255, 255, 255, 255, 127};
        Check.reads("the ninth may be any", of(LONG), 0, 0, ninth, -1L << 62);
    }

    private static void theTenthByteOfOtherNumbers() {
        int[] zero = padded(Check.of(0), 10);
        int[] wrong = zero.clone();
        wrong[9] = 2;
        SchemaDesk x = new SchemaDesk();
        for (int kind = 0; kind < 10; kind++) x.type(kind, 0);
        x.symbol(ENUM, 3);
        x.branch(UNION, NULL);
        int[] kinds = {INT, LONG, TEXT, ENUM, ARRAY, UNION};
        for (int t : kinds) Check.readFails("kind " + t + ", tenth 2", x, t, t, BAD, wrong);
        Check.reads("INT", x, INT, INT, zero, 0);
        Check.reads("TEXT", x, TEXT, TEXT, zero, 0);
        Check.reads("ENUM", x, ENUM, ENUM, zero, 3);
        Check.reads("ARRAY", x, ARRAY, ARRAY, zero, 0);
        Check.reads("UNION", x, UNION, UNION, zero, 0, 0);
        Check.readFails("the size of a block", x, ARRAY, ARRAY, BAD, joined(Check.of(1), wrong));
    }

    /** "TEXT its length (0 .. 20) and its bytes"; "its length as a LONG (BAD if not 0 .. 20)". */
    private static void texts() {
        int[] lengths = {0, 1, 19, 20};
        for (int length : lengths) {
            int[] bytes = new int[length + 1];
            long[] list = new long[length + 1];
            bytes[0] = 2 * length;
            list[0] = length;
            for (int i = 1; i <= length; i++) list[i] = bytes[i] = (i * 200) % 256;
            both("length " + length, of(TEXT), 0, list, bytes);
        }
        long[] wrong = {21, -1, -20, 40, 256};
        int[] spare = new int[60];
        for (long v : wrong) Check.readFails("length " + v, of(TEXT), 0, 0, BAD, joined(longBytes(v), spare));
        for (long v : FAR) Check.readFails("length " + v, of(TEXT), 0, 0, BAD, joined(longBytes(v), spare));
        for (long v : wrong) Check.writeFails("length " + v, of(TEXT), 0, BAD, v, 0);
        for (long v : FAR) Check.writeFails("length " + v, of(TEXT), 0, BAD, v, 0);
        Check.readFails("BAD before a byte is missing", of(TEXT), 0, 0, BAD, 42);
        Check.reads("zeros at the end", of(TEXT), 0, 0, Check.of(130, 0, 9), 1, 9);
    }

    /** "its bytes (0 .. 255)". */
    private static void textBytes() {
        both("0 and 255", of(TEXT), 0, Check.row(2, 0, 255), 4, 0, 255);
        SchemaDesk fixed = new SchemaDesk();
        fixed.type(FIXED, 2);
        both("0 and 255", fixed, 0, Check.row(0, 255), 0, 255);
        long[] wrong = {-1, 256, 1L << 32, Long.MIN_VALUE, Long.MAX_VALUE};
        for (long v : wrong) {
            Check.writeFails("byte " + v, of(TEXT), 0, BAD, 2, v, 0);
            Check.writeFails("last byte " + v, of(TEXT), 0, BAD, 2, 0, v);
            Check.writeFails("byte " + v + " of a FIXED", fixed, 0, BAD, v, 0);
            Check.writeFails("last byte " + v + " of a FIXED", fixed, 0, BAD, 0, v);
        }
    }

    /** "ENUM the name of the symbol"; "the number of the symbol as a LONG (BAD if there is none)". */
    private static void enums() {
        int[] names = {0, 15, 7, 1, 8};
        SchemaDesk x = of(ENUM);
        Check.readFails("without symbols", x, 0, 0, BAD, 0);
        Check.readFails("without symbols or bytes", x, 0, 0, SHORT);
        Check.writeFails("without symbols", x, 0, BAD, 0);
        Check.writeFails("without symbols or numbers", x, 0, SHORT);
        for (int i = 0; i < 5; i++) {
            x.symbol(0, names[i]);
            both("symbol " + i, x, 0, Check.row(names[i]), 2 * i);
            Check.readFails("one on", x, 0, 0, BAD, 2 * i + 2);
        }
        x = of(ENUM);
        for (int name : names) x.symbol(0, name);
        x.fallback(0, 7);
        Check.readFails("-1", x, 0, 0, BAD, 1);
        for (long v : FAR) Check.readFails("" + v, x, 0, 0, BAD, longBytes(v));
        long[] wrong = {2, 14, 16, -1};
        for (long v : wrong) Check.writeFails("name " + v, x, 0, BAD, v);
        x = of(ENUM);
        for (int name : names) x.symbol(0, name);
        for (long v : FAR) Check.writeFails("name " + v, x, 0, BAD, v);
        Check.writeFails("a name 2 to the 32nd above", x, 0, BAD, (1L << 32) + 15);
    }

    /** "FIXED its bytes". */
    private static void fixeds() {
        for (int size = 0; size < 9; size++) {
            SchemaDesk x = new SchemaDesk();
            x.type(FIXED, size);
            int[] bytes = new int[size];
            long[] list = new long[size];
            for (int i = 0; i < size; i++) list[i] = bytes[i] = 255 - i;
            both("FIXED of " + size, x, 0, list, bytes);
        }
    }

    /** "UNION the number of the branch and the list of its value"; "(BAD if there is none), then its value". */
    private static void unions() {
        SchemaDesk x = of(UNION);
        Check.readFails("without branches", x, 0, 0, BAD, 0);
        Check.readFails("without branches or bytes", x, 0, 0, SHORT);
        Check.writeFails("without branches", x, 0, BAD, 0);
        int[] kinds = {BOOL, INT, LONG, TEXT, ARRAY};
        for (int i = 0; i < 5; i++) {
            int u = x.type(kinds[i], 0);
            x.branch(0, u);
            both("branch " + i, x, 0, Check.row(i, 0), 2 * i, 0);
            Check.readFails("one on", x, 0, 0, BAD, 2 * i + 2, 0);
            Check.writeFails("one on", x, 0, BAD, i + 1, 0);
        }
        x = of(UNION);
        x.type(INT, 0);
        for (int i = 0; i < 5; i++) x.branch(0, 1);
        Check.readFails("-1", x, 0, 0, BAD, 1, 0);
        Check.writeFails("-1", x, 0, BAD, -1, 0);
        for (long v : FAR) Check.readFails("" + v, x, 0, 0, BAD, joined(longBytes(v), Check.of(0)));
        for (long v : FAR) Check.writeFails("" + v, x, 0, BAD, v, 0);
    }

    /** "RECORD the lists of its fields"; "RECORD: its fields". */
    private static void records() {
        SchemaDesk x = of(RECORD);
        both("no field", x, 0, Check.row());
        x.type(TEXT, 0);
        x.type(RECORD, 0);
        x.type(BOOL, 0);
        x.field(0, 3, 1, -1, true, 9);
        both("one field", x, 0, Check.row(1, 65), 2, 65);
        x.field(0, 1, 2, -1, true, 9);
        both("one without bytes", x, 0, Check.row(1, 65), 2, 65);
        x.field(0, 2, 3, 1, true, 9);
        both("in the order in which they came", x, 0, Check.row(0, 1), 0, 1);
    }

    // ---- arrays ----

    private static SchemaDesk ofNulls() {
        SchemaDesk x = new SchemaDesk();
        x.type(ARRAY, x.type(NULL, 0));
        return x;
    }

    private static long[] nullsOf(int count) {
        long[] list = new long[count + 1];
        list[0] = count;
        return list;
    }

    /** "ARRAY how many (0 .. 40), and their lists"; "the number of an ARRAY that is not 0 .. 40 is BAD". */
    private static void arrays() {
        both("0", ofNulls(), 1, nullsOf(0), 0);
        both("1", ofNulls(), 1, nullsOf(1), 2, 0);
        both("39", ofNulls(), 1, nullsOf(39), 78, 0);
        both("40", ofNulls(), 1, nullsOf(40), 80, 0);
        Check.writeFails("41", ofNulls(), 1, BAD, nullsOf(41));
        Check.writeFails("41 alone", ofNulls(), 1, BAD, 41);
        Check.writeFails("-1", ofNulls(), 1, BAD, -1);
        Check.writeFails("-40", ofNulls(), 1, BAD, -40);
        Check.writeFails("400", ofNulls(), 1, BAD, 400);
        for (long v : FAR) Check.writeFails("" + v, ofNulls(), 1, BAD, v);
    }

    /** "BLOCKS: a LONG n; if it is 0 the array ends; if above 0, n values follow, and then another block". */
    private static void blocks() {
        SchemaDesk x = new SchemaDesk();
        int t = x.type(ARRAY, x.type(BOOL, 0));
        Check.reads("none", x, t, t, Check.of(0), 0);
        Check.reads("one", x, t, t, Check.of(2, 1, 0), 1, 1);
        Check.reads("one by one", x, t, t, Check.of(2, 1, 2, 0, 2, 1, 0), 3, 1, 0, 1);
        Check.reads("two and one", x, t, t, Check.of(4, 1, 1, 2, 0, 0), 3, 1, 1, 0);
        Check.reads("one and two of the other form", x, t, t, Check.of(2, 1, 3, 9, 0, 1, 0), 3, 1, 0, 1);
        Check.setBytes(x, 2, 1, 0, 2, 1, 0);
        Check.due("0 ends it", x.read(t, t), 3);
        Check.list("0 ends it", x, 1, 1);
        Check.readFails("no block", x, t, t, SHORT);
        Check.readFails("no value", x, t, t, SHORT, 2);
        Check.readFails("no other block", x, t, t, SHORT, 2, 1);
        Check.readFails("no other value", x, t, t, SHORT, 2, 1, 2);
        Check.readFails("no end", x, t, t, SHORT, 2, 1, 2, 1);
        Check.readFails("a value that is BAD", x, t, t, BAD, 4, 1, 2);
        Check.readFails("a value that is BAD in another block", x, t, t, BAD, 2, 1, 2, 2);
    }

    /** "if below 0, another LONG that says nothing, then -n values and another block". */
    private static void sizesThatSayNothing() {
        long[] sizes = {0, 1, -1, 40, 41, HIGH, Long.MIN_VALUE, Long.MAX_VALUE};
        for (long size : sizes) {
            SchemaDesk x = new SchemaDesk();
            int t = x.type(ARRAY, x.type(BOOL, 0));
            Check.reads("size " + size, x, t, t, joined(Check.of(3), longBytes(size), Check.of(1, 0, 0)), 2, 1, 0);
        }
        SchemaDesk x = new SchemaDesk();
        int t = x.type(ARRAY, x.type(BOOL, 0));
        Check.reads("zeros at the end of it", x, t, t, joined(Check.of(1), padded(Check.of(0), 10), Check.of(1, 0)), 1, 1);
        Check.reads("twice", x, t, t, Check.of(1, 0, 1, 1, 0, 0, 0), 2, 1, 0);
        Check.readFails("no size", x, t, t, SHORT, 1);
        Check.readFails("half a size", x, t, t, SHORT, 1, 128);
        Check.readFails("no value", x, t, t, SHORT, 1, 0);
        Check.readFails("no other block", x, t, t, SHORT, 1, 0, 1);
    }

    /** "MUCH if an array would have more than 40". */
    private static void moreThanForty() {
        int[][] heads = {{80}, {79, 0}, {78, 2}, {2, 78}, {78, 1, 0}, {1, 0, 77, 0}, {40, 40}, {39, 0, 40}, {26, 26, 28}};
        for (int[] head : heads) {
            String what = "blocks " + Arrays.toString(head);
            Check.reads(what, ofNulls(), 1, 1, joined(head, Check.of(0)), nullsOf(40));
            Check.readFails(what + " and 1", ofNulls(), 1, 1, MUCH, joined(head, Check.of(2, 0)));
            Check.readFails(what + " and -1", ofNulls(), 1, 1, MUCH, joined(head, Check.of(1, 0, 0)));
            Check.readFails(what + " and 40", ofNulls(), 1, 1, MUCH, joined(head, Check.of(80, 0)));
        }
        SchemaDesk x = new SchemaDesk();
        int inner = x.type(ARRAY, x.type(NULL, 0));
        int outer = x.type(ARRAY, inner);
        Check.setBytes(x, 4, 80, 0, 80, 0, 0);
        Check.due("each array has its own 40", x.read(outer, outer), 6);
        Check.due("each array has its own 40", x.result(-1), 83);
        Check.readFails("41 within another", x, outer, outer, MUCH, 4, 80, 0, 82, 0, 0);
    }

    /** "(as soon as n says so)": before the size, the values and their bytes. */
    private static void asSoonAsNSaysSo() {
        long[] heads = {41, -41, 42, 400, HIGH, LOW, 1L << 32, -1L << 32, Long.MAX_VALUE, Long.MIN_VALUE, Long.MIN_VALUE + 1};
        for (long n : heads) {
            SchemaDesk x = new SchemaDesk();
            int t = x.type(ARRAY, x.type(BOOL, 0));
            Check.readFails("n = " + n, x, t, t, MUCH, longBytes(n));
            Check.readFails("n = " + n + " and a value that is BAD", x, t, t, MUCH, joined(longBytes(n), Check.of(2, 2, 2)));
            Check.readFails("a value and n = " + n, x, t, t, MUCH, joined(Check.of(2, 1), longBytes(n)));
        }
        SchemaDesk x = new SchemaDesk();
        int t = x.type(ARRAY, x.type(BOOL, 0));
        Check.readFails("40 may be, but are not there", x, t, t, SHORT, 80);
        Check.readFails("-40 may be, but have no size", x, t, t, SHORT, 79);
        Check.readFails("39 more may be", x, t, t, SHORT, 2, 1, 78);
        Check.readFails("40 more may not", x, t, t, MUCH, 2, 1, 80);
        Check.readFails("-40 more may not", x, t, t, MUCH, 2, 1, 79);
    }

    /** "It is written as one block (if any) and 0." */
    private static void oneBlockAndZero() {
        SchemaDesk x = new SchemaDesk();
        int t = x.type(ARRAY, x.type(BOOL, 0));
        Check.setBytes(x, 2, 1, 1, 9, 0, 0);
        Check.due("blocks of one", x.read(t, t), 6);
        Check.list("blocks of one", x, 2, 1, 0);
        Check.writes("one block", x, t, Check.row(2, 1, 0), 4, 1, 0, 0);
        Check.writes("no block", x, t, Check.row(0), 0);
        int outer = x.type(ARRAY, t);
        Check.writes("within another", x, outer, Check.row(2, 0, 1, 1), 4, 0, 2, 1, 0, 0);
    }

    /** "SHORT if a byte is needed and there is none": all hundred bytes are read, and then one more. */
    private static void shortBehindTheHundredth() {
        for (int kind = 0; kind < 10; kind++) {
            SchemaDesk x = new SchemaDesk();
            int u = kind == ARRAY ? x.type(ARRAY, x.type(NULL, 0)) : x.type(kind, kind == FIXED ? 1 : 0);
            if (kind == ENUM) x.symbol(u, 0);
            if (kind == UNION) x.branch(u, x.type(NULL, 0));
            if (kind == RECORD) x.field(u, 0, x.type(BOOL, 0), -1, false, 0);
            int t = x.type(RECORD, 0);
            x.field(t, 0, x.type(ARRAY, x.type(FIXED, 8)), -1, false, 0);
            x.field(t, 1, x.type(FIXED, 2), -1, false, 0);
            x.field(t, 2, u, -1, false, 0);
            x.add(24);
            for (int i = 0; i < 96; i++) x.add(200);
            x.add(0);
            x.add(200);
            Check.due("99 bytes, then kind " + kind, x.read(t, t), SHORT);
            x.add(200);
            Check.due("100 bytes, then kind " + kind, x.read(t, t), kind == NULL ? 100 : SHORT);
            Check.due("100 bytes, then kind " + kind, x.result(-1), kind == NULL ? 100 : 0);
        }
    }

    // ---- promises 7 to 10 ----

    /** "Appends a byte: how many there are; REFUSED if it is not 0 .. 255, or there are 100." */
    private static void add() {
        int[] wrong = {-1, 256, 511, LOW, HIGH};
        SchemaDesk x = new SchemaDesk();
        for (int b : wrong) Check.due("add(" + b + ")", x.add(b), REFUSED);
        Check.due("0", x.add(0), 1);
        for (int b : wrong) Check.due("add(" + b + ")", x.add(b), REFUSED);
        Check.due("255", x.add(255), 2);
        Check.bytes("these two alone", x, 0, 255);
        for (int i = 3; i <= 100; i++) Check.due("byte " + i, x.add(i), i);
        for (int i = 0; i < 3; i++) Check.due("the 101st", x.add(i), REFUSED);
        Check.due("the 101st, no byte", x.add(256), REFUSED);
        Check.due("the 100th", x.at(99), 100);
        Check.due("none behind it", x.at(100), REFUSED);
        Check.due("a hundred", x.wipe(false), 100);
        Check.due("and the first again", x.add(7), 1);
        Check.bytes("and the first again", x, 7);
    }

    /** "Byte k; REFUSED if there is none." */
    private static void at() {
        SchemaDesk x = new SchemaDesk();
        int[] none = {-1, 0, 1, 99, 100, LOW, HIGH};
        for (int k : none) Check.due("without bytes: at(" + k + ")", x.at(k), REFUSED);
        for (int i = 0; i < 100; i++) {
            x.add(255 - i);
            Check.due("at(" + i + ")", x.at(i), 255 - i);
            Check.due("at(" + (i + 1) + ")", x.at(i + 1), REFUSED);
        }
        Check.due("at(-1)", x.at(-1), REFUSED);
        Check.due("the first stays", x.at(0), 255);
        x.wipe(false);
        for (int k : none) Check.due("wiped: at(" + k + ")", x.at(k), REFUSED);
    }

    /** "The bytes go (numbers false), or the numbers: how many there were." */
    private static void wipe() {
        SchemaDesk x = of(BOOL);
        Check.due("no bytes", x.wipe(false), 0);
        Check.due("no numbers", x.wipe(true), 0);
        x.number(1);
        Check.due("no bytes, though a number", x.wipe(false), 0);
        Check.due("the number stays", x.write(0), 1);
        Check.due("its byte", x.wipe(false), 1);
        Check.due("no byte any more", x.read(0, 0), SHORT);
        Check.due("the number", x.wipe(true), 1);
        Check.due("no number any more", x.write(0), SHORT);
        x.add(1);
        x.add(1);
        Check.due("no numbers, though bytes", x.wipe(true), 0);
        Check.due("the bytes stay", x.read(0, 0), 1);
        Check.due("two bytes", x.wipe(false), 2);
        Check.list("the result stays", x, 1);
        Check.due("the type stays", x.same(0, 0), 1);
        for (int i = 0; i < 100; i++) x.number(i);
        for (int i = 0; i < 100; i++) x.add(i);
        Check.due("a hundred numbers", x.wipe(true), 100);
        Check.due("a hundred bytes", x.wipe(false), 100);
        Check.due("no numbers again", x.wipe(true), 0);
        Check.due("no bytes again", x.wipe(false), 0);
    }

    /** "Appends a number: how many there are; REFUSED if there are 100." */
    private static void number() {
        SchemaDesk x = new SchemaDesk();
        int t = x.type(RECORD, 0);
        int big = x.type(LONG, 0);
        for (int i = 0; i < 3; i++) x.field(t, i, big, -1, false, 0);
        Check.due("the lowest", x.number(Long.MIN_VALUE), 1);
        Check.due("-1", x.number(-1), 2);
        Check.due("the highest", x.number(Long.MAX_VALUE), 3);
        Check.due("they are what they were", x.write(t), 21);
        Check.reads("they are what they were", x, t, t,
            joined(longBytes(Long.MIN_VALUE), longBytes(-1), longBytes(Long.MAX_VALUE)), Long.MIN_VALUE, -1, Long.MAX_VALUE);
        x = new SchemaDesk();
        // 33 RECORDs of three NULLs need a hundred numbers.
        int nulls = x.type(RECORD, 0);
        int none = x.type(NULL, 0);
        for (int i = 0; i < 3; i++) x.field(nulls, i, none, -1, false, 0);
        int array = x.type(ARRAY, nulls);
        Check.due("the first", x.number(33), 1);
        for (int i = 2; i < 100; i++) Check.due("number " + i, x.number(0), i);
        Check.due("with 99", x.write(array), SHORT);
        Check.due("the 100th", x.number(0), 100);
        Check.due("the 101st", x.number(0), REFUSED);
        Check.due("the 101st again", x.number(5), REFUSED);
        Check.due("with 100", x.write(array), 2);
        x.wipe(true);
        for (int i = 0; i < 100; i++) x.number(i == 0 ? 34 : 0);
        Check.due("with 100, where 103 are needed", x.write(array), SHORT);
        Check.due("a hundred", x.wipe(true), 100);
        Check.due("and the first again", x.number(0), 1);
        Check.due("and the first again", x.write(array), 1);
    }

    // ---- promises 11 and 12 ----

    /** "Reads a value of type w from the first bytes on (others may follow) ... how many bytes were read." */
    private static void othersMayFollow() {
        SchemaDesk x = of(LONG);
        x.type(NULL, 0);
        Check.setBytes(x, 14, 16);
        Check.due("the first alone", x.read(0, 0), 1);
        Check.list("the first alone", x, 7);
        Check.due("from the first on, again", x.read(0, 0), 1);
        Check.list("from the first on, again", x, 7);
        Check.due("none", x.read(1, 1), 0);
        Check.list("none", x, 0);
        Check.bytes("all are still there", x, 14, 16);
        x = new SchemaDesk();
        int eight = x.type(FIXED, 8);
        int all = x.type(ARRAY, eight);
        x.add(24);
        for (int i = 0; i < 96; i++) x.add(i);
        x.add(0);
        x.add(1);
        x.add(1);
        Check.due("a hundred, 98 of them read", x.read(all, all), 98);
        Check.due("97 numbers", x.result(-1), 97);
        Check.due("the last of them", x.result(96), 95);
        Check.setBytes(x, 24);
        for (int i = 0; i < 95; i++) x.add(255);
        Check.due("one is missing", x.read(all, all), SHORT);
    }

    /** "REFUSED if a type is none"; "the latest read that was not REFUSED". */
    private static void readRefused() {
        SchemaDesk x = of(LONG);
        Check.setBytes(x, 14);
        int[] none = {-1, 1, 19, 20, LOW, HIGH};
        for (int t : none) {
            Check.due("w is " + t, x.read(t, 0), REFUSED);
            Check.due("r is " + t, x.read(0, t), REFUSED);
            Check.due("both are " + t, x.read(t, t), REFUSED);
        }
        Check.list("no result before a read", x);
        x.read(0, 0);
        for (int t : none) {
            Check.due("w is " + t, x.read(t, 0), REFUSED);
            Check.due("r is " + t, x.read(0, t), REFUSED);
        }
        Check.list("the result stays", x, 7);
        x.wipe(false);
        Check.due("without bytes w counts first", x.read(1, 0), REFUSED);
        Check.due("without bytes r counts first", x.read(0, 1), REFUSED);
        Check.list("the result stays without the bytes", x, 7);
        Check.due("no byte", x.read(0, 0), SHORT);
        Check.due("REFUSED after one that was wrong", x.read(1, 1), REFUSED);
        Check.list("still no result", x);
    }

    private static void readingChangesNothingElse() {
        SchemaDesk x = of(LONG);
        x.type(BOOL, 0);
        Check.setBytes(x, 14, 16, 2);
        Check.setNumbers(x, 5, 6);
        x.read(0, 0);
        x.read(0, 1);
        x.read(1, 1);
        Check.bytes("the bytes", x, 14, 16, 2);
        Check.due("the numbers", x.wipe(true), 2);
        Check.due("the types", x.type(0, 0), 2);
    }

    /** "Number k of the result ...; k = -1: how many; REFUSED if there is none." */
    private static void resultOfTheLatestRead() {
        SchemaDesk x = of(TEXT);
        Check.reads("three", x, 0, 0, Check.of(6, 1, 2, 3), 3, 1, 2, 3);
        int[] none = {-2, 4, 5, 149, 150, LOW, HIGH};
        for (int k : none) Check.due("result(" + k + ")", x.result(k), REFUSED);
        Check.reads("a shorter one takes its place", x, 0, 0, Check.of(2, 9), 1, 9);
        Check.due("the longer one is gone", x.result(2), REFUSED);
        Check.reads("a longer one again", x, 0, 0, Check.of(4, 5, 6), 2, 5, 6);
        x = new SchemaDesk();
        int empty = x.type(RECORD, 0);
        Check.due("a list without numbers", x.read(empty, empty), 0);
        Check.list("a list without numbers", x);
    }

    /** "k = -1 answers 0 if there is no result (nothing was read yet, or something was wrong)". */
    private static void noResult() {
        SchemaDesk x = of(TEXT);
        x.type(BOOL, 0);
        int[] others = {-2, 0, 1, 149, LOW, HIGH};
        Check.due("nothing was read", x.result(-1), 0);
        for (int k : others) Check.due("nothing was read: " + k, x.result(k), REFUSED);
        Check.reads("something", x, 0, 0, Check.of(4, 5, 6), 2, 5, 6);
        Check.readFails("SHORT", x, 0, 0, SHORT, 4, 5);
        for (int k : others) Check.due("something was wrong: " + k, x.result(k), REFUSED);
        Check.reads("something", x, 0, 0, Check.of(4, 5, 6), 2, 5, 6);
        Check.due("MISMATCH", x.read(0, 1), SchemaDesk.MISMATCH);
        Check.due("something was wrong", x.result(-1), 0);
        for (int k : others) Check.due("something was wrong: " + k, x.result(k), REFUSED);
        Check.reads("something again", x, 0, 0, Check.of(4, 5, 6), 2, 5, 6);
    }

    // ---- promise 13 ----

    /** "REFUSED if there is no such type". */
    private static void writeRefused() {
        int[] none = {-1, 1, 19, 20, LOW, HIGH};
        SchemaDesk x = of(BOOL);
        for (int t : none) Check.writeFails("type " + t, x, t, REFUSED, 1);
        for (int t : none) Check.writeFails("type " + t + " without numbers", x, t, REFUSED);
        Check.writes("the one that is there", x, 0, Check.row(1), 1);
    }

    /** "they stay, and its bytes take the place of all bytes: how many". */
    private static void bytesTakeThePlaceOfAllBytes() {
        SchemaDesk x = of(LONG);
        x.type(RECORD, 0);
        Check.setBytes(x, 1, 2, 3, 4, 5);
        Check.writes("two for five", x, 0, Check.row(300), 216, 4);
        Check.due("the others are gone", x.at(4), REFUSED);
        Check.due("the next comes behind them", x.add(9), 3);
        Check.bytes("the next comes behind them", x, 216, 4, 9);
        Check.due("again, from the numbers that stayed", x.write(0), 2);
        Check.bytes("again", x, 216, 4);
        Check.due("the numbers stay", x.wipe(true), 1);
        Check.writes("none for two", x, 1, Check.row());
        Check.due("no bytes", x.wipe(false), 0);
        Check.writes("one for none", x, 0, Check.row(1), 2);
    }

    /** "and nothing changes": nor does the result, nor what a later write answers. */
    private static void nothingChanges() {
        SchemaDesk x = of(LONG);
        x.type(BOOL, 0);
        Check.reads("a result", x, 0, 0, Check.of(216, 4), 300);
        Check.writes("a write leaves it", x, 1, Check.row(1), 1);
        Check.list("a write leaves it", x, 300);
        Check.writeFails("BAD", x, 1, BAD, 2);
        Check.list("BAD leaves it", x, 300);
        Check.writeFails("SHORT", x, 1, SHORT);
        Check.writeFails("LEFT", x, 1, LEFT, 1, 1);
        Check.list("LEFT leaves it", x, 300);
        Check.setNumbers(x, 1, 1);
        Check.due("LEFT", x.write(1), LEFT);
        Check.due("LEFT again", x.write(1), LEFT);
        Check.due("the numbers are still there", x.number(5), 3);
        Check.writes("as it should be", x, 1, Check.row(0), 0);
    }

    /** "LEFT if numbers are left". */
    private static void left() {
        SchemaDesk x = of(RECORD);
        Check.writes("none", x, 0, Check.row());
        Check.writeFails("one", x, 0, LEFT, 0);
        Check.writeFails("more", x, 0, LEFT, 0, 1, 2);
        Check.writeFails("a hundred", x, 0, LEFT, new long[100]);
        x = ofNulls();
        Check.writeFails("a number of an ARRAY, and one more", x, 1, LEFT, 0, 0);
        Check.writeFails("BAD comes first", x, 1, BAD, 1, 1, 0);
    }

    /** "An object is used for at most 512 calls". */
    private static void fiveHundredTwelveCalls() {
        SchemaDesk x = of(LONG);
        x.add(14);
        for (int call = 3; call < 511; call++) Check.due("call " + call, x.read(0, 0), 1);
        Check.due("call 511", x.read(0, 0), 1);
        Check.due("call 512", x.result(0), 7);
    }
}
