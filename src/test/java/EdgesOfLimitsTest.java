import java.util.Arrays;

/**
 * Terms, BYTES, and promises 11, 13 and 17: how many values, how deep, how many bytes, and what of
 * several wrong things is answered. Above each test stands the sentence that it looks at.
 */
public final class EdgesOfLimitsTest {
    private static final int SHORT = SchemaDesk.SHORT;
    private static final int BAD = SchemaDesk.BAD;
    private static final int MUCH = SchemaDesk.MUCH;
    private static final int DEEP = SchemaDesk.DEEP;
    private static final int MISMATCH = SchemaDesk.MISMATCH;
    private static final int FULL = SchemaDesk.FULL;
    private static final int LEFT = SchemaDesk.LEFT;
    private static final int NULL = 0, BOOL = 1, INT = 2, LONG = 3, TEXT = 4;
    private static final int ENUM = 5, FIXED = 6, ARRAY = 7, UNION = 8, RECORD = 9;

    public static void main(String[] args) {
        fourHundredValues();
        muchBeforeWhatTheValueNeeds();
        allWithinOthersCount();
        aUnionAndItsValueAreTwo();
        oneReadIsNotAnother();
        tenRecords();
        theEleventhRecord();
        whatIsNotWithin();
        deepBeforeWhatTheRecordNeeds();
        muchBeforeDeep();
        hundredBytes();
        aByteTooMany();
        aNumberThenItsBytes();
        theFirstThatIsMet();
        readingBeforeResolving();
        Check.end();
    }

    // ---- 400 values ----

    /** Eight full ARRAYs in RECORDs, two more with what is missing of a count, and then the type u. */
    private static int crowd(SchemaDesk x, int u) {
        int item = x.type(FIXED, 0);
        int items = x.type(ARRAY, item);
        int four = x.type(RECORD, 0);
        int eight = x.type(RECORD, 0);
        int t = x.type(RECORD, 0);
        for (int i = 0; i < 4; i++) x.field(four, i, items, -1, false, 0);
        for (int i = 0; i < 2; i++) x.field(eight, i, four, -1, false, 0);
        x.field(t, 0, eight, -1, false, 0);
        x.field(t, 1, items, -1, false, 0);
        x.field(t, 2, items, -1, false, 0);
        x.field(t, 3, u, -1, false, 0);
        return t;
    }

    /** How many items are in each of the ten ARRAYs, if that many values begin before u. */
    private static int[] counts(int before) {
        int[] counts = new int[10];
        Arrays.fill(counts, 40);
        // t, eight, two of four and ten ARRAYs begin, too.
        int missing = 414 - before;
        counts[9] -= missing / 2;
        counts[8] -= missing - missing / 2;
        return counts;
    }

    /** Reads and writes a crowd before a value of type u: both must answer the same trouble, or none. */
    private static void crowded(String what, int before, Maker maker, int code, int[] bytes, long[] list) {
        SchemaDesk x = new SchemaDesk();
        int u = maker.make(x);
        int t = crowd(x, u);
        x.wipe(false);
        for (int count : counts(before)) {
            x.add(2 * count);
            x.add(0);
        }
        for (int b : bytes) x.add(b);
        Check.due(what + " after " + before + ": read", x.read(t, t), code == 0 ? 20 + bytes.length : code);
        x.wipe(false);
        x.add(77);
        for (int count : counts(before)) x.number(count);
        for (long v : list) x.number(v);
        Check.due(what + " after " + before + ": write", x.write(t), code == 0 ? 20 + bytes.length : code);
        if (code != 0) Check.bytes(what + " after " + before, x, 77);
    }

    private interface Maker {
        int make(SchemaDesk x);
    }

    private static Maker plain(int kind) {
        return x -> x.type(kind, 0);
    }

    private static Maker over(int kind, int inner) {
        return x -> {
            int u = x.type(inner, 0);
            int t = x.type(kind, u);
            if (kind == UNION) x.branch(t, u);
            if (kind == RECORD) x.field(t, 0, u, -1, false, 0);
            return t;
        };
    }

    private static int enumOf(SchemaDesk x) {
        int t = x.type(ENUM, 0);
        x.symbol(t, 0);
        return t;
    }

    /** "MUCH, too, if a value begins when 400 have". */
    private static void fourHundredValues() {
        int[] none = {};
        int[] zero = {0};
        long[] number = {0};
        crowded("NULL", 399, plain(NULL), 0, none, number);
        crowded("BOOL", 399, plain(BOOL), 0, zero, number);
        crowded("INT", 399, plain(INT), 0, zero, number);
        crowded("LONG", 399, plain(LONG), 0, zero, number);
        crowded("TEXT", 399, plain(TEXT), 0, zero, number);
        crowded("ENUM", 399, EdgesOfLimitsTest::enumOf, 0, zero, number);
        crowded("FIXED", 399, plain(FIXED), 0, none, new long[0]);
        crowded("ARRAY", 399, over(ARRAY, NULL), 0, zero, number);
        crowded("RECORD", 399, plain(RECORD), 0, none, new long[0]);
        crowded("NULL", 400, plain(NULL), MUCH, none, number);
        crowded("BOOL", 400, plain(BOOL), MUCH, zero, number);
        crowded("INT", 400, plain(INT), MUCH, zero, number);
        crowded("LONG", 400, plain(LONG), MUCH, zero, number);
        crowded("TEXT", 400, plain(TEXT), MUCH, zero, number);
        crowded("ENUM", 400, EdgesOfLimitsTest::enumOf, MUCH, zero, number);
        crowded("FIXED", 400, plain(FIXED), MUCH, none, new long[0]);
        crowded("ARRAY", 400, over(ARRAY, NULL), MUCH, zero, number);
        crowded("UNION", 400, over(UNION, NULL), MUCH, zero, new long[2]);
        crowded("RECORD", 400, plain(RECORD), MUCH, none, new long[0]);
    }

    /** A value that may not begin needs no byte and no number; one that may does. */
    private static void muchBeforeWhatTheValueNeeds() {
        int[] kinds = {BOOL, INT, LONG, TEXT, ENUM, ARRAY, UNION};
        int[] none = {};
        for (int kind : kinds) {
            Maker maker = kind == ARRAY || kind == UNION ? over(kind, NULL) : kind == ENUM ? EdgesOfLimitsTest::enumOf : plain(kind);
            crowded("kind " + kind + " without anything", 400, maker, MUCH, none, new long[0]);
            crowded("kind " + kind + " without anything", 399, maker, SHORT, none, new long[0]);
            crowded("kind " + kind + ", BAD", 400, maker, MUCH, Check.of(255, 255, 255, 255, 255, 255, 255, 255, 255, 2), Check.row(-1));
        }
    }

    /** "(all within others count)". */
    private static void allWithinOthersCount() {
        int[] none = {};
        long[] number = {0};
        crowded("RECORD of a NULL", 398, over(RECORD, NULL), 0, none, number);
        crowded("RECORD of a NULL", 399, over(RECORD, NULL), MUCH, none, number);
        crowded("ARRAY of a NULL", 398, over(ARRAY, NULL), 0, Check.of(2, 0), Check.row(1, 0));
        crowded("ARRAY of a NULL", 399, over(ARRAY, NULL), MUCH, Check.of(2, 0), Check.row(1, 0));
        crowded("ARRAY of two", 398, over(ARRAY, NULL), MUCH, Check.of(4, 0), Check.row(2, 0, 0));
        crowded("ARRAY of two", 397, over(ARRAY, NULL), 0, Check.of(4, 0), Check.row(2, 0, 0));
        crowded("ARRAY of none", 399, over(ARRAY, NULL), 0, Check.of(0), number);
    }

    /** "In reading and in writing, a UNION and the value of its branch are two values for MUCH (400)." */
    private static void aUnionAndItsValueAreTwo() {
        crowded("UNION", 398, over(UNION, NULL), 0, Check.of(0), new long[2]);
        crowded("UNION", 399, over(UNION, NULL), MUCH, Check.of(0), new long[2]);
        crowded("UNION, its number is needed first", 399, over(UNION, NULL), SHORT, new int[0], new long[0]);
        crowded("UNION, its number is BAD", 399, over(UNION, NULL), BAD, Check.of(2), Check.row(1));
    }

    /** The values of one call do not count in the next one. */
    private static void oneReadIsNotAnother() {
        SchemaDesk x = new SchemaDesk();
        int t = crowd(x, x.type(NULL, 0));
        for (int count : counts(399)) {
            x.add(2 * count);
            x.add(0);
        }
        for (int count : counts(399)) x.number(count);
        x.number(0);
        for (int i = 0; i < 3; i++) {
            Check.due("400 values again: read", x.read(t, t), 20);
            Check.due("400 values again: write", x.write(t), 20);
        }
    }

    // ---- ten RECORDs within one another ----

    /** That many RECORDs within one another, the innermost with a field of type u. */
    private static int nest(SchemaDesk x, int count, int u) {
        int t = u;
        for (int i = 0; i < count; i++) {
            int outer = x.type(RECORD, 0);
            x.field(outer, 0, t, -1, false, 0);
            t = outer;
        }
        return t;
    }

    /** Reads and writes a value of u within that many RECORDs. */
    private static void nested(String what, int count, Maker maker, int code, int[] bytes, long[] list) {
        SchemaDesk x = new SchemaDesk();
        int t = nest(x, count, maker.make(x));
        Check.setBytes(x, bytes);
        Check.due(what + " within " + count + ": read", x.read(t, t), code == 0 ? bytes.length : code);
        Check.list(what + " within " + count, x, code == 0 ? list : new long[0]);
        Check.setBytes(x, 77);
        Check.setNumbers(x, list);
        Check.due(what + " within " + count + ": write", x.write(t), code == 0 ? bytes.length : code);
        Check.bytes(what + " within " + count, x, code == 0 ? bytes : Check.of(77));
    }

    /** "DEEP if a RECORD begins within ten others": what is no RECORD may begin there. */
    private static void tenRecords() {
        nested("NULL", 10, plain(NULL), 0, Check.of(), Check.row(0));
        nested("BOOL", 10, plain(BOOL), 0, Check.of(1), Check.row(1));
        nested("TEXT", 10, plain(TEXT), 0, Check.of(2, 9), Check.row(1, 9));
        nested("ENUM", 10, EdgesOfLimitsTest::enumOf, 0, Check.of(0), Check.row(0));
        nested("FIXED", 10, plain(FIXED), 0, Check.of(), Check.row());
        nested("ARRAY", 10, over(ARRAY, BOOL), 0, Check.of(4, 1, 0, 0), Check.row(2, 1, 0));
        nested("UNION", 10, over(UNION, BOOL), 0, Check.of(0, 1), Check.row(0, 1));
        nested("RECORD", 9, plain(RECORD), 0, Check.of(), Check.row());
        nested("RECORD of a BOOL", 9, over(RECORD, BOOL), 0, Check.of(1), Check.row(1));
    }

    private static void theEleventhRecord() {
        nested("RECORD", 10, plain(RECORD), DEEP, Check.of(), Check.row());
        nested("RECORD of a BOOL", 10, over(RECORD, BOOL), DEEP, Check.of(1), Check.row(1));
        nested("RECORD in an ARRAY", 10, over(ARRAY, RECORD), DEEP, Check.of(2, 0), Check.row(1));
        nested("no RECORD in an ARRAY", 10, over(ARRAY, RECORD), 0, Check.of(0), Check.row(0));
        nested("RECORD in an ARRAY", 9, over(ARRAY, RECORD), 0, Check.of(2, 0), Check.row(1));
        nested("RECORD in a UNION", 10, over(UNION, RECORD), DEEP, Check.of(0), Check.row(0));
        nested("RECORD in a UNION", 9, over(UNION, RECORD), 0, Check.of(0), Check.row(0));
        nested("RECORD in a RECORD", 9, over(RECORD, RECORD), DEEP, Check.of(), Check.row());
        nested("RECORD in a RECORD", 8, over(RECORD, RECORD), 0, Check.of(), Check.row());
    }

    /** RECORDs beside one another, and ARRAYs and UNIONs around them, do not make it deeper. */
    private static void whatIsNotWithin() {
        SchemaDesk x = new SchemaDesk();
        int empty = x.type(RECORD, 0);
        int five = x.type(RECORD, 0);
        for (int i = 0; i < 5; i++) x.field(five, i, empty, -1, false, 0);
        int t = nest(x, 8, five);
        Check.due("five beside one another, within nine", x.read(t, t), 0);
        int array = x.type(ARRAY, t);
        Check.setBytes(x, 80, 0);
        Check.due("forty times that: too many, not too deep", x.read(array, array), MUCH);
        Check.setBytes(x, 40, 0);
        Check.due("twenty times that", x.read(array, array), 2);
        int outer = x.type(RECORD, 0);
        x.field(outer, 0, t, -1, false, 0);
        Check.due("one more around it", x.read(outer, outer), DEEP);
        x = new SchemaDesk();
        int last = x.type(BOOL, 0);
        for (int i = 0; i < 15; i++) last = x.type(ARRAY, last);
        x.wipe(false);
        for (int i = 0; i < 15; i++) x.add(2);
        x.add(1);
        for (int i = 0; i < 15; i++) x.add(0);
        Check.due("fifteen ARRAYs within one another", x.read(last, last), 31);
        for (int i = 0; i < 16; i++) x.number(1);
        Check.due("fifteen ARRAYs within one another", x.write(last), 31);
    }

    private static void deepBeforeWhatTheRecordNeeds() {
        nested("RECORD of a BOOL without a byte", 10, over(RECORD, BOOL), DEEP, Check.of(), Check.row());
        nested("RECORD of a BOOL that is BAD", 10, over(RECORD, BOOL), DEEP, Check.of(2), Check.row(2));
        nested("RECORD of a BOOL without a byte", 9, over(RECORD, BOOL), SHORT, Check.of(), Check.row());
        nested("the number of a UNION is needed first", 10, over(UNION, RECORD), SHORT, Check.of(), Check.row());
        nested("the number of a UNION is BAD", 10, over(UNION, RECORD), BAD, Check.of(2), Check.row(1));
        nested("the number of an ARRAY is needed first", 10, over(ARRAY, RECORD), SHORT, Check.of(), Check.row());
    }

    /** "read: MUCH is tested before DEEP where a value begins"; in writing, MUCH stands before DEEP, too. */
    private static void muchBeforeDeep() {
        Maker ring = x -> {
            int t = x.type(RECORD, 0);
            x.field(t, 0, t, -1, false, 0);
            return t;
        };
        // Within the outermost RECORD, nine of the ring may begin.
        crowded("the eleventh RECORD is value 400", 390, ring, DEEP, Check.of(), Check.row());
        crowded("the eleventh RECORD would be value 401", 391, ring, MUCH, Check.of(), Check.row());
        crowded("the tenth RECORD would be value 401", 392, ring, MUCH, Check.of(), Check.row());
        crowded("the eleventh RECORD is value 344", 334, ring, DEEP, Check.of(), Check.row());
    }

    // ---- 100 bytes ----

    /** LONGs of five bytes each, and one of what remains: with the two of the ARRAY that many bytes. */
    private static long[] longsOf(int bytes) {
        int count = (bytes - 2) / 5;
        int rest = (bytes - 2) % 5;
        long[] list = new long[count + (rest == 0 ? 1 : 2)];
        Arrays.fill(list, 1L << 30);
        list[0] = list.length - 1;
        if (rest != 0) list[list.length - 1] = rest == 1 ? 0 : 1L << (7 * rest - 8);
        return list;
    }

    /** "FULL if there would be more than 100 bytes". */
    private static void hundredBytes() {
        for (int count = 95; count < 106; count++) {
            SchemaDesk x = new SchemaDesk();
            int t = x.type(ARRAY, x.type(LONG, 0));
            Check.setNumbers(x, longsOf(count));
            Check.setBytes(x, 9, 8, 7);
            Check.due(count + " bytes", x.write(t), count <= 100 ? count : FULL);
            Check.due("the first", x.at(0), count <= 100 ? 2 * (longsOf(count).length - 1) : 9);
            Check.due("how many", x.wipe(false), count <= 100 ? count : 3);
            Check.due("the numbers stay", x.wipe(true), longsOf(count).length);
        }
    }

    /** A RECORD of an ARRAY that takes that many bytes, and of u. */
    private static void after(String what, int bytes, Maker maker, int code, long... list) {
        SchemaDesk x = new SchemaDesk();
        int u = maker.make(x);
        int longs = x.type(ARRAY, x.type(LONG, 0));
        int t = x.type(RECORD, 0);
        x.field(t, 0, longs, -1, false, 0);
        x.field(t, 1, u, -1, false, 0);
        Check.setBytes(x, 9, 8, 7);
        Check.setNumbers(x, longsOf(bytes));
        for (long v : list) x.number(v);
        Check.due(what + " after " + bytes, x.write(t), code);
        if (code < 0) Check.bytes(what + " after " + bytes, x, 9, 8, 7);
        Check.due(what + " after " + bytes + ": the numbers stay", x.wipe(true), longsOf(bytes).length + list.length);
    }

    private static void aByteTooMany() {
        after("NULL", 100, plain(NULL), 100, 0);
        after("FIXED of 0", 100, plain(FIXED), 100);
        after("RECORD without fields", 100, plain(RECORD), 100);
        after("BOOL", 99, plain(BOOL), 100, 1);
        after("BOOL", 100, plain(BOOL), FULL, 1);
        after("INT", 99, plain(INT), 100, 63);
        after("INT", 99, plain(INT), FULL, 64);
        after("INT", 98, plain(INT), 100, 64);
        after("LONG", 90, plain(LONG), 100, Long.MIN_VALUE);
        after("LONG", 91, plain(LONG), FULL, Long.MIN_VALUE);
        after("TEXT", 97, plain(TEXT), 100, 2, 5, 6);
        after("TEXT", 98, plain(TEXT), FULL, 2, 5, 6);
        after("TEXT without bytes", 99, plain(TEXT), 100, 0);
        after("TEXT without bytes", 100, plain(TEXT), FULL, 0);
        after("ENUM", 99, EdgesOfLimitsTest::enumOf, 100, 0);
        after("ENUM", 100, EdgesOfLimitsTest::enumOf, FULL, 0);
        after("FIXED of 3", 97, x -> x.type(FIXED, 3), 100, 1, 2, 3);
        after("FIXED of 3", 98, x -> x.type(FIXED, 3), FULL, 1, 2, 3);
        after("ARRAY of none", 99, over(ARRAY, NULL), 100, 0);
        after("ARRAY of none", 100, over(ARRAY, NULL), FULL, 0);
        after("ARRAY: the 0 at its end", 98, over(ARRAY, NULL), 100, 1, 0);
        after("ARRAY: the 0 at its end", 99, over(ARRAY, NULL), FULL, 1, 0);
        after("UNION of NULL", 99, over(UNION, NULL), 100, 0, 0);
        after("UNION of NULL", 100, over(UNION, NULL), FULL, 0, 0);
    }

    /** "the first of these that is met (a number, then its bytes)". */
    private static void aNumberThenItsBytes() {
        after("BOOL, BAD before its byte", 100, plain(BOOL), BAD, 2);
        after("BOOL, SHORT before its byte", 100, plain(BOOL), SHORT);
        after("LONG, SHORT before its bytes", 100, plain(LONG), SHORT);
        after("INT, BAD before its bytes", 100, plain(INT), BAD, 1L << 31);
        after("ENUM, BAD before its byte", 100, EdgesOfLimitsTest::enumOf, BAD, 1);
        after("TEXT, its length is BAD before its byte", 100, plain(TEXT), BAD, 21);
        after("TEXT, the byte of its length before its bytes are BAD", 100, plain(TEXT), FULL, 1, 256);
        after("TEXT, the byte of its length before its bytes are missing", 100, plain(TEXT), FULL, 1);
        after("TEXT, its bytes are BAD", 99, plain(TEXT), BAD, 1, 256);
        after("TEXT, its bytes are missing", 99, plain(TEXT), SHORT, 1);
        after("TEXT, its first byte before the second is BAD", 99, plain(TEXT), FULL, 2, 1, 256);
        after("FIXED, its first byte before the second is BAD", 100, x -> x.type(FIXED, 2), FULL, 1, 256);
        after("FIXED, its first is BAD", 100, x -> x.type(FIXED, 2), BAD, 256, 1);
        after("FIXED, its second is BAD before its byte", 99, x -> x.type(FIXED, 2), BAD, 1, 256);
        after("UNION, its number is BAD before its byte", 100, over(UNION, BOOL), BAD, 1, 2);
        after("UNION, the byte of its number before its value is BAD", 100, over(UNION, BOOL), FULL, 0, 2);
        after("UNION, its value is BAD", 99, over(UNION, BOOL), BAD, 0, 2);
        after("ARRAY, its number is BAD before its bytes", 100, over(ARRAY, BOOL), BAD, 41);
        after("ARRAY, the byte of its number before its values are BAD", 100, over(ARRAY, BOOL), FULL, 1, 2);
        after("ARRAY, its values are BAD", 99, over(ARRAY, BOOL), BAD, 1, 2);
        after("ARRAY, its values are missing", 99, over(ARRAY, BOOL), SHORT, 1);
    }

    private static void theFirstThatIsMet() {
        after("FULL before LEFT", 100, plain(BOOL), FULL, 1, 1);
        after("BAD before LEFT", 90, plain(BOOL), BAD, 2, 1);
        after("LEFT alone", 100, plain(NULL), LEFT, 0, 1);
        after("DEEP before SHORT", 100, x -> nest(x, 10, x.type(BOOL, 0)), DEEP);
        after("DEEP before FULL", 100, x -> nest(x, 10, x.type(BOOL, 0)), DEEP, 1);
        after("FULL as deep as may be", 100, x -> nest(x, 9, x.type(BOOL, 0)), FULL, 1);
        after("BAD before DEEP", 90, EdgesOfLimitsTest::boolAndDeep, BAD, 2);
        after("SHORT before DEEP", 90, EdgesOfLimitsTest::boolAndDeep, SHORT);
        after("FULL before DEEP", 100, EdgesOfLimitsTest::boolAndDeep, FULL, 1);
        after("DEEP at last, before LEFT", 99, EdgesOfLimitsTest::boolAndDeep, DEEP, 1, 1);
        crowded("MUCH before LEFT", 400, plain(NULL), MUCH, Check.of(), Check.row(0, 0));
        crowded("MUCH before BAD", 399, EdgesOfLimitsTest::twoBools, MUCH, Check.of(2), Check.row(2));
        crowded("BAD before MUCH", 398, EdgesOfLimitsTest::twoBools, BAD, Check.of(2), Check.row(2));
        crowded("SHORT before MUCH", 398, EdgesOfLimitsTest::twoBools, SHORT, Check.of(), Check.row());
        crowded("MUCH at last", 398, EdgesOfLimitsTest::twoBools, MUCH, Check.of(1), Check.row(1));
    }

    private static int twoBools(SchemaDesk x) {
        int bool = x.type(BOOL, 0);
        int t = x.type(RECORD, 0);
        x.field(t, 0, bool, -1, false, 0);
        x.field(t, 1, bool, -1, false, 0);
        return t;
    }

    private static int boolAndDeep(SchemaDesk x) {
        int bool = x.type(BOOL, 0);
        int deep = nest(x, 10, bool);
        int t = x.type(RECORD, 0);
        x.field(t, 0, bool, -1, false, 0);
        x.field(t, 1, deep, -1, false, 0);
        return t;
    }

    // ---- reading before resolving ----

    /** "what is wrong in reading, all of it, comes before what is wrong in resolving; there is no result then". */
    private static void readingBeforeResolving() {
        int[] codes = {MISMATCH, DEEP, FULL};
        for (int code : codes) {
            readWrongly(code, SHORT);
            readWrongly(code, BAD, 4);
            readWrongly(code, MUCH, 0, 82);
            readWrongly(code, DEEP, 2);
            readWrongly(code, SHORT, 0, 2, 1);
            readWrongly(code, BAD, 0, 2, 2);
            readWrongly(code, code, 0, 0);
        }
    }

    /** Forty BOOLs and a UNION; what is asked for is wrong in resolving from its first field on. */
    private static void readWrongly(int resolving, int due, int... last) {
        SchemaDesk x = new SchemaDesk();
        int bool = x.type(BOOL, 0);
        int bools = x.type(ARRAY, bool);
        int ring = x.type(RECORD, 0);
        x.field(ring, 0, ring, -1, true, 0);
        int union = x.type(UNION, 0);
        x.branch(union, bools);
        x.branch(union, ring);
        int w = x.type(RECORD, 0);
        x.field(w, 1, bools, -1, false, 0);
        x.field(w, 2, union, -1, false, 0);
        int r = x.type(RECORD, 0);
        if (resolving == MISMATCH) x.field(r, 3, bool, -1, false, 0);
        if (resolving == DEEP) x.field(r, 3, ring, -1, true, 0);
        for (int i = 3; i < 8; i++) x.field(r, i, bools, 1, false, 0);
        x.wipe(false);
        x.add(80);
        for (int i = 0; i < 40; i++) x.add(i % 2);
        x.add(0);
        Check.due("the first field alone", x.read(bools, bools), 42);
        for (int b : last) x.add(b);
        Check.due(due + " in reading before " + resolving, x.read(w, r), due);
        Check.list("no result", x);
    }
}
