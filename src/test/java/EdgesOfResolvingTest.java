/**
 * Terms, RESOLVING, and promises 11 and 17: the edges that the document names, one after the other.
 * Above each test stands the sentence that it looks at.
 */
public final class EdgesOfResolvingTest {
    private static final int MISMATCH = SchemaDesk.MISMATCH;
    private static final int DEEP = SchemaDesk.DEEP;
    private static final int FULL = SchemaDesk.FULL;
    private static final int LOW = Integer.MIN_VALUE;
    private static final int HIGH = Integer.MAX_VALUE;
    private static final int NULL = 0, BOOL = 1, INT = 2, LONG = 3, TEXT = 4;
    private static final int ENUM = 5, FIXED = 6, ARRAY = 7, UNION = 8, RECORD = 9;
    private static final int[] INTS = {0, 1, 2, -1, -2, 127, 128, 255, 256, 257, -255, -256, -257, HIGH, HIGH - 1, LOW, LOW + 1};

    public static void main(String[] args) {
        aUnionOfW();
        aUnionOfR();
        aUnionOfBoth();
        theSameKind();
        theSameSize();
        intAndLong();
        whatStays();
        symbols();
        eachValueOfAnArray();
        nameAliasDefault();
        noneOfThem();
        defaultOfNullAndArray();
        defaultOfBool();
        defaultOfIntAndLong();
        defaultOfText();
        defaultOfEnum();
        defaultOfFixed();
        defaultOfUnion();
        defaultOfRecord();
        aRecordWithinTenOthers();
        aDefaultWithinTenOthers();
        otherDefaultsWithinTen();
        whatBeginsNoRecord();
        hundredFiftyNumbers();
        aDefaultNumberTooMany();
        withoutANumberToGive();
        inTheOrderInWhichTheListGrows();
        aFieldThatHasNoValue();
        typesThatGrow();
        aWrongReadLeavesNothing();
        Check.end();
    }

    private static int record(SchemaDesk x, int... types) {
        int t = x.type(RECORD, 0);
        for (int i = 0; i < types.length; i++) x.field(t, i, types[i], -1, false, 0);
        return t;
    }

    private static int union(SchemaDesk x, int... types) {
        int t = x.type(UNION, 0);
        for (int u : types) x.branch(t, u);
        return t;
    }

    private static int enumOf(SchemaDesk x, int... names) {
        int t = x.type(ENUM, 0);
        for (int name : names) x.symbol(t, name);
        return t;
    }

    /** A RECORD with one field, which takes its default if w has no field 0. */
    private static int withDefault(SchemaDesk x, int u, int v) {
        int t = x.type(RECORD, 0);
        x.field(t, 0, u, -1, true, v);
        return t;
    }

    // ---- unions, and what suits ----

    /** "If w is a UNION, the value of its branch is resolved to r". */
    private static void aUnionOfW() {
        SchemaDesk x = new SchemaDesk();
        int bool = x.type(BOOL, 0);
        int number = x.type(INT, 0);
        int big = x.type(LONG, 0);
        int w = union(x, bool, number);
        Check.reads("branch 0 to a BOOL", x, w, bool, Check.of(0, 1), 1);
        Check.readFails("branch 1 to a BOOL", x, w, bool, MISMATCH, 2, 1);
        Check.reads("branch 1 to a LONG", x, w, big, Check.of(2, 1), -1);
        Check.readFails("branch 0 to a LONG", x, w, big, MISMATCH, 0, 1);
        int fields = record(x, w, w);
        int asked = record(x, bool, big);
        Check.reads("in fields", x, fields, asked, Check.of(0, 1, 2, 1), 1, -1);
        Check.readFails("in the other order", x, fields, asked, MISMATCH, 2, 1, 0, 1);
        Check.reads("in an ARRAY", x, x.type(ARRAY, w), x.type(ARRAY, big), Check.of(4, 2, 3, 2, 5, 0), 2, -2, -3);
    }

    /** "else if r is a UNION: the number of its first branch that w SUITS, and the value resolved to that". */
    private static void aUnionOfR() {
        SchemaDesk x = new SchemaDesk();
        int number = x.type(INT, 0);
        int big = x.type(LONG, 0);
        int two = x.type(FIXED, 2);
        int three = x.type(FIXED, 3);
        int none = x.type(UNION, 0);
        Check.readFails("without branches", x, number, none, MISMATCH, 14);
        Check.readFails("no branch that it suits", x, big, union(x, number, two), MISMATCH, 14);
        Check.reads("the last of five", x, two, union(x, number, big, three, three, two), Check.of(8, 9), 4, 8, 9);
        Check.reads("the first of two", x, number, union(x, number, big), Check.of(14), 0, 7);
        Check.reads("the first of two, though the other is its own", x, number, union(x, big, number), Check.of(14), 0, 7);
        Check.reads("the second, as a LONG does not suit an INT", x, big, union(x, number, big), Check.of(14), 1, 7);
        int poor = enumOf(x, 1);
        int rich = enumOf(x, 1, 2);
        int both = union(x, poor, rich);
        Check.reads("a symbol that both have", x, rich, both, Check.of(0), 0, 1);
        Check.readFails("the first that it suits, though only the second has the symbol", x, rich, both, MISMATCH, 2);
        int lacking = record(x, number, number);
        int single = record(x, number);
        Check.readFails("the first RECORD, though it lacks a field", x, single, union(x, lacking, single), MISMATCH, 14);
    }

    private static void aUnionOfBoth() {
        SchemaDesk x = new SchemaDesk();
        int bool = x.type(BOOL, 0);
        int number = x.type(INT, 0);
        int text = x.type(TEXT, 0);
        int w = union(x, bool, number);
        int turned = union(x, number, bool);
        Check.reads("branch 0 is 1 there", x, w, turned, Check.of(0, 1), 1, 1);
        Check.reads("branch 1 is 0 there", x, w, turned, Check.of(2, 1), 0, -1);
        int part = union(x, text, bool);
        Check.reads("branch 0 is there", x, w, part, Check.of(0, 1), 1, 1);
        Check.readFails("branch 1 is not", x, w, part, MISMATCH, 2, 1);
        Check.readFails("no branch is", x, w, union(x), MISMATCH, 0, 1);
        int twice = union(x, bool, bool);
        Check.reads("the second becomes the first that suits", x, twice, twice, Check.of(2, 1), 0, 1);
    }

    /** "Else w must suit r: be of the same kind ... MISMATCH if none is so." */
    private static void theSameKind() {
        SchemaDesk x = new SchemaDesk();
        for (int kind = 0; kind < 8; kind++) x.type(kind, 0);
        int record = x.type(RECORD, 0);
        x.symbol(ENUM, 0);
        x.add(0);
        for (int w = 0; w <= record; w++) {
            for (int r = 0; r <= record; r++) {
                boolean fits = w == r || w == INT && r == LONG;
                int bytes = w == NULL || w == FIXED || w == record ? 0 : 1;
                Check.due("type " + w + " to " + r, x.read(w, r), fits ? bytes : MISMATCH);
            }
        }
    }

    /** "(FIXED of the same size)". */
    private static void theSameSize() {
        SchemaDesk x = new SchemaDesk();
        for (int size = 0; size < 9; size++) x.type(FIXED, size);
        for (int i = 0; i < 9; i++) x.add(i);
        for (int w = 0; w < 9; w++) {
            for (int r = 0; r < 9; r++) Check.due("size " + w + " to " + r, x.read(w, r), w == r ? w : MISMATCH);
        }
        int sizes = union(x, 0, 1, 2, 7, 8);
        Check.due("8 to a UNION", x.read(8, sizes), 8);
        Check.due("its branch", x.result(0), 4);
        Check.due("0 to a UNION", x.read(0, sizes), 0);
        Check.list("0 to a UNION", x, 0);
        Check.due("3 to a UNION without it", x.read(3, sizes), MISMATCH);
    }

    /** "or INT and r LONG". */
    private static void intAndLong() {
        SchemaDesk x = new SchemaDesk();
        int number = x.type(INT, 0);
        int big = x.type(LONG, 0);
        Check.reads("the highest", x, number, big, Check.of(254, 255, 255, 255, 15), HIGH);
        Check.reads("the lowest", x, number, big, Check.of(255, 255, 255, 255, 15), LOW);
        Check.readFails("LONG to INT, though it would fit", x, big, number, MISMATCH, 0);
        Check.readFails("what is no INT is BAD first", x, number, big, SchemaDesk.BAD, 128, 128, 128, 128, 16);
    }

    /** "INT, LONG, BOOL, TEXT, FIXED, NULL stay." */
    private static void whatStays() {
        SchemaDesk x = new SchemaDesk();
        for (int kind = 0; kind < 6; kind++) x.type(kind, 0);
        for (int kind = 0; kind < 5; kind++) x.type(kind, 0);
        int two = x.type(FIXED, 2);
        int again = x.type(FIXED, 2);
        Check.reads("NULL", x, NULL, NULL + 6, Check.of(), 0);
        Check.reads("BOOL", x, BOOL, BOOL + 6, Check.of(1), 1);
        Check.reads("INT", x, INT, INT + 6, Check.of(255, 255, 255, 255, 15), LOW);
        Check.reads("LONG", x, LONG, LONG + 6, Check.of(255, 255, 255, 255, 255, 255, 255, 255, 255, 1), Long.MIN_VALUE);
        Check.reads("TEXT", x, TEXT, TEXT + 6, Check.of(6, 0, 255, 128), 3, 0, 255, 128);
        Check.reads("TEXT without bytes", x, TEXT, TEXT + 6, Check.of(0), 0);
        Check.reads("FIXED", x, two, again, Check.of(255, 0), 255, 0);
    }

    /** "ENUM: the symbol, if r has it, else r's fallback, else MISMATCH." */
    private static void symbols() {
        SchemaDesk x = new SchemaDesk();
        int w = enumOf(x, 0, 15, 7);
        int r = enumOf(x, 9, 8, 6, 5, 15);
        int none = enumOf(x);
        int zero = enumOf(x, 3, 0);
        Check.reads("r's last", x, w, r, Check.of(2), 15);
        Check.readFails("the others are not there", x, w, r, MISMATCH, 0);
        Check.readFails("nor is any where there are none", x, w, none, MISMATCH, 0);
        x.fallback(w, 15);
        Check.readFails("w's fallback does not count", x, w, r, MISMATCH, 4);
        x.fallback(r, 9);
        Check.reads("r's fallback", x, w, r, Check.of(4), 9);
        Check.reads("the symbol before the fallback", x, w, r, Check.of(2), 15);
        x.fallback(r, 15);
        Check.reads("another fallback", x, w, r, Check.of(0), 15);
        x.fallback(r, -1);
        Check.readFails("no fallback", x, w, r, MISMATCH, 0);
        x.fallback(zero, 0);
        Check.reads("the fallback 0", x, w, zero, Check.of(4), 0);
        Check.reads("by name, not by number", x, w, zero, Check.of(0), 0);
    }

    /** "ARRAY: each value." */
    private static void eachValueOfAnArray() {
        SchemaDesk x = new SchemaDesk();
        int number = x.type(INT, 0);
        int text = x.type(TEXT, 0);
        int w = x.type(ARRAY, union(x, number, text));
        int r = x.type(ARRAY, x.type(LONG, 0));
        Check.reads("none", x, w, r, Check.of(0), 0);
        Check.reads("each", x, w, r, Check.of(4, 0, 14, 0, 16, 0), 2, 7, 8);
        Check.readFails("the last does not fit", x, w, r, MISMATCH, 4, 0, 14, 2, 0, 0);
        Check.readFails("the first does not fit", x, w, r, MISMATCH, 4, 2, 0, 0, 14, 0);
        int texts = x.type(ARRAY, text);
        Check.reads("none to what it can't be", x, x.type(ARRAY, number), texts, Check.of(0), 0);
        Check.readFails("an ARRAY to what is in it", x, texts, text, MISMATCH, 0);
        Check.readFails("a value to an ARRAY of it", x, text, texts, MISMATCH, 0);
    }

    // ---- records ----

    /** "each field of r, in order: from w's field of that name, else from that of its alias, else its DEFAULT". */
    private static void nameAliasDefault() {
        SchemaDesk x = new SchemaDesk();
        int number = x.type(INT, 0);
        int w = record(x, number, number, number, number, number);
        int[] bytes = {20, 22, 24, 26, 28};
        int r = x.type(RECORD, 0);
        x.field(r, 4, number, 0, true, 90);
        x.field(r, 15, number, 3, true, 91);
        x.field(r, 14, number, 13, true, 92);
        x.field(r, 12, number, -1, true, 93);
        x.field(r, 0, number, 4, true, 94);
        Check.reads("name, alias, default, default, name", x, w, r, bytes, 14, 13, 92, 93, 10);
        int none = record(x);
        Check.reads("all of them defaults", x, none, r, Check.of(), 90, 91, 92, 93, 94);
        int same = x.type(RECORD, 0);
        x.field(same, 15, number, 0, false, 0);
        x.field(same, 14, number, 0, false, 0);
        x.field(same, 0, number, -1, false, 0);
        Check.reads("one field for three", x, w, same, bytes, 10, 10, 10);
        int text = x.type(TEXT, 0);
        int hard = x.type(RECORD, 0);
        x.field(hard, 0, text, 1, true, 5);
        Check.readFails("the name counts, though it does not fit", x, w, hard, MISMATCH, bytes);
        int soft = x.type(RECORD, 0);
        x.field(soft, 9, text, 1, true, 5);
        Check.readFails("the alias counts, though it does not fit", x, w, soft, MISMATCH, bytes);
        int old = x.type(RECORD, 0);
        x.field(old, 9, number, 0, true, 5);
        int now = record(x, number);
        Check.readFails("an alias of w does not count", x, old, now, MISMATCH, 14);
    }

    /** "MISMATCH if it has none." */
    private static void noneOfThem() {
        SchemaDesk x = new SchemaDesk();
        int empty = x.type(RECORD, 0);
        int w = record(x, empty);
        for (int kind = 0; kind < 10; kind++) {
            int u = x.type(kind, 0);
            int r = x.type(RECORD, 0);
            x.field(r, 1, u, kind % 2 == 0 ? -1 : 2, false, 7);
            Check.readFails("a field of kind " + kind, x, w, r, MISMATCH);
            if (kind == 7) x = new SchemaDesk();
            if (kind == 7) empty = x.type(RECORD, 0);
            if (kind == 7) w = record(x, empty);
        }
        Check.reads("no field at all", x, w, empty, Check.of());
        Check.reads("the field is there", x, w, w, Check.of());
    }

    // ---- defaults ----

    /** Reads a RECORD without fields as one whose only field has the default v. */
    private static void defaults(String what, SchemaDesk x, int u, int v, long... list) {
        int w = x.type(RECORD, 0);
        int r = withDefault(x, u, v);
        Check.reads(what + " by default " + v, x, w, r, Check.of(), list);
    }

    private static void noDefault(String what, SchemaDesk x, int u, int v) {
        int w = x.type(RECORD, 0);
        int r = withDefault(x, u, v);
        Check.readFails(what + " by default " + v, x, w, r, MISMATCH);
    }

    private static SchemaDesk of(int kind, int a) {
        SchemaDesk x = new SchemaDesk();
        if (kind == ARRAY) x.type(a, 0);
        x.type(kind, kind == ARRAY ? 0 : a);
        return x;
    }

    /** "The DEFAULT v of type u: NULL 0"; "ARRAY none". */
    private static void defaultOfNullAndArray() {
        for (int v : INTS) defaults("NULL", of(NULL, 0), 0, v, 0);
        for (int v : INTS) defaults("ARRAY", of(ARRAY, INT), 1, v, 0);
        defaults("ARRAY of ENUMs without symbols", of(ARRAY, ENUM), 1, 1, 0);
        defaults("ARRAY of UNIONs without branches", of(ARRAY, UNION), 1, 1, 0);
    }

    /** "BOOL v's lowest bit". */
    private static void defaultOfBool() {
        for (int v : INTS) defaults("BOOL", of(BOOL, 0), 0, v, v % 2 == 0 ? 0 : 1);
    }

    /** "INT, LONG v". */
    private static void defaultOfIntAndLong() {
        for (int v : INTS) defaults("INT", of(INT, 0), 0, v, v);
        for (int v : INTS) defaults("LONG", of(LONG, 0), 0, v, v);
    }

    /** "TEXT of the one byte v (its lowest 8 bits)". */
    private static void defaultOfText() {
        for (int v : INTS) defaults("TEXT", of(TEXT, 0), 0, v, 1, Math.floorMod(v, 256));
    }

    /** "ENUM its symbol number v modulo their number (at least 0; MISMATCH if it has none)". */
    private static void defaultOfEnum() {
        int[] names = {3, 0, 15, 7, 1};
        for (int count = 0; count <= 5; count++) {
            for (int v : INTS) {
                SchemaDesk x = of(ENUM, 0);
                for (int i = 0; i < count; i++) x.symbol(0, names[i]);
                if (count > 0) defaults("ENUM of " + count, x, 0, v, names[Math.floorMod(v, count)]);
                else noDefault("ENUM without symbols", x, 0, v);
            }
        }
        SchemaDesk x = of(ENUM, 0);
        x.symbol(0, 3);
        x.symbol(0, 4);
        x.fallback(0, 4);
        defaults("the fallback does not count", x, 0, 2, 3);
    }

    /** "FIXED all bytes v"; "The default of a FIXED is the lowest 8 bits of v in all its bytes." */
    private static void defaultOfFixed() {
        for (int size = 0; size < 9; size++) {
            for (int v : INTS) {
                long[] list = new long[size];
                java.util.Arrays.fill(list, Math.floorMod(v, 256));
                defaults("FIXED of " + size, of(FIXED, size), 0, v, list);
            }
        }
    }

    /** "UNION branch 0 with the default v (MISMATCH if it has none)". */
    private static void defaultOfUnion() {
        for (int v : INTS) noDefault("UNION without branches", of(UNION, 0), 0, v);
        for (int v : INTS) {
            SchemaDesk x = new SchemaDesk();
            int number = x.type(INT, 0);
            int text = x.type(TEXT, 0);
            defaults("UNION of INT and TEXT", x, union(x, number, text), v, 0, v);
            defaults("UNION of TEXT and INT", x, union(x, text, number), v, 0, 1, Math.floorMod(v, 256));
            int none = x.type(ENUM, 0);
            noDefault("UNION of an ENUM without symbols, and INT", x, union(x, none, number), v);
            defaults("UNION of INT, and an ENUM without symbols", x, union(x, number, none), v, 0, v);
        }
    }

    /** "RECORD its fields' own defaults (MISMATCH at one that has none)". */
    private static void defaultOfRecord() {
        SchemaDesk x = new SchemaDesk();
        int number = x.type(INT, 0);
        int inner = x.type(RECORD, 0);
        defaults("RECORD without fields", x, inner, 9);
        x.field(inner, 0, number, -1, true, 5);
        x.field(inner, 1, number, 0, true, 6);
        defaults("RECORD of two", x, inner, 9, 5, 6);
        int outer = x.type(RECORD, 0);
        x.field(outer, 2, inner, -1, true, 9);
        x.field(outer, 3, number, -1, true, 7);
        defaults("RECORD of a RECORD", x, outer, 9, 5, 6, 7);
        int w = record(x, number, number);
        int r = x.type(RECORD, 0);
        x.field(r, 2, inner, -1, true, 9);
        Check.reads("not w's fields, though they have the names", x, w, r, Check.of(2, 4), 5, 6);
        x.field(inner, 4, number, 0, false, 8);
        Check.readFails("one has no default, though w has its alias", x, w, r, MISMATCH, 2, 4);
        noDefault("one has none", x, inner, 9);
        noDefault("one within has none", x, outer, 9);
        x = new SchemaDesk();
        int lacking = x.type(RECORD, 0);
        x.field(lacking, 0, x.type(RECORD, 0), -1, false, 0);
        noDefault("one that would add nothing has none", x, lacking, 0);
    }

    // ---- DEEP ----

    /** That many RECORDs within one another, the innermost with a field of type u. */
    private static int nest(SchemaDesk x, int count, int u, boolean has) {
        int t = u;
        for (int i = 0; i < count; i++) {
            int outer = x.type(RECORD, 0);
            x.field(outer, 0, t, -1, has, 3);
            t = outer;
        }
        return t;
    }

    /** "DEEP if a RECORD of r begins within ten others": ten that were read, and a default. */
    private static void aRecordWithinTenOthers() {
        for (int count = 8; count < 12; count++) {
            SchemaDesk x = new SchemaDesk();
            int bool = x.type(BOOL, 0);
            int w = nest(x, count - 1, record(x, bool), false);
            Check.setBytes(x, 1);
            Check.due(count + " RECORDs of both", x.read(w, w), count < 11 ? 1 : DEEP);
        }
        for (int count = 8; count < 11; count++) {
            SchemaDesk x = new SchemaDesk();
            int empty = x.type(RECORD, 0);
            int w = nest(x, count - 1, empty, false);
            int r = x.type(RECORD, 0);
            x.field(r, 0, r, -1, false, 0);
            Check.readFails(count + " of w, the ring lacks a field", x, w, r, MISMATCH);
            int last = x.type(RECORD, 0);
            x.field(last, 0, last, -1, true, 0);
            Check.readFails(count + " of w, the ring goes on by default", x, w, last, DEEP);
        }
    }

    /** The same of defaults: plain ones, in a UNION, and where an ARRAY ends it. */
    private static void aDefaultWithinTenOthers() {
        SchemaDesk x = new SchemaDesk();
        int w = x.type(RECORD, 0);
        int number = x.type(INT, 0);
        int ten = nest(x, 10, number, true);
        Check.reads("ten", x, w, ten, Check.of(), 3);
        Check.readFails("eleven", x, w, withDefault(x, ten, 0), DEEP);
        Check.readFails("eleven in a UNION", x, w, withDefault(x, union(x, ten), 0), DEEP);
        Check.reads("an ARRAY of eleven", x, w, withDefault(x, x.type(ARRAY, ten), 0), Check.of(), 0);
        x = new SchemaDesk();
        w = x.type(RECORD, 0);
        int nine = nest(x, 9, x.type(RECORD, 0), true);
        Check.reads("ten, the innermost without fields", x, w, nine, Check.of());
        Check.readFails("eleven, the innermost without fields", x, w, withDefault(x, nine, 0), DEEP);
        x = new SchemaDesk();
        w = x.type(RECORD, 0);
        int eight = nest(x, 8, union(x, x.type(RECORD, 0)), true);
        Check.reads("nine and one in a UNION", x, w, withDefault(x, eight, 0), Check.of(), 0);
        Check.readFails("ten and one in a UNION", x, w, withDefault(x, withDefault(x, eight, 0), 0), DEEP);
        x = new SchemaDesk();
        int empty = x.type(RECORD, 0);
        int source = nest(x, 4, empty, false);
        int six = nest(x, 5, x.type(RECORD, 0), true);
        Check.reads("five that were read, and five defaults", x, source, nest(x, 4, six, true), Check.of());
        Check.readFails("five that were read, and six defaults", x, source, nest(x, 5, six, true), DEEP);
    }

    /** What is no RECORD may be a default within ten, whatever it is. */
    private static void otherDefaultsWithinTen() {
        long[][] lists = {{0}, {1}, {3}, {3}, {1, 3}, {7}, {3, 3}, {0}, {0, 3}};
        for (int kind = 0; kind < 9; kind++) {
            SchemaDesk x = new SchemaDesk();
            int w = x.type(RECORD, 0);
            int u = x.type(kind, kind == FIXED ? 2 : 0);
            if (kind == ENUM) x.symbol(u, 7);
            if (kind == UNION) x.branch(u, x.type(INT, 0));
            Check.reads("a default of kind " + kind + " within ten", x, w, nest(x, 10, u, true), Check.of(), lists[kind]);
        }
        SchemaDesk x = new SchemaDesk();
        int w = x.type(RECORD, 0);
        Check.readFails("of an ENUM without symbols", x, w, nest(x, 10, x.type(ENUM, 0), true), MISMATCH);
        x = new SchemaDesk();
        w = x.type(RECORD, 0);
        Check.readFails("of a UNION without branches", x, w, nest(x, 10, x.type(UNION, 0), true), MISMATCH);
    }

    /** Within ten others, what is no RECORD, does not suit one, or has no value, begins none. */
    private static void whatBeginsNoRecord() {
        SchemaDesk x = new SchemaDesk();
        int bool = x.type(BOOL, 0);
        int w = nest(x, 10, bool, false);
        int ring = x.type(RECORD, 0);
        x.field(ring, 0, ring, -1, true, 0);
        Check.reads("a BOOL within ten", x, w, w, Check.of(1), 1);
        Check.readFails("a BOOL to the RECORD within ten", x, w, ring, MISMATCH, 1);
        x = new SchemaDesk();
        w = nest(x, 9, x.type(RECORD, 0), false);
        ring = x.type(RECORD, 0);
        x.field(ring, 0, ring, -1, false, 0);
        Check.readFails("a RECORD that has no value within ten", x, w, ring, MISMATCH);
        x = new SchemaDesk();
        w = nest(x, 9, x.type(RECORD, 0), false);
        ring = x.type(RECORD, 0);
        int none = x.type(UNION, 0);
        int choice = union(x, ring);
        x.field(ring, 0, choice, -1, true, 0);
        x.field(ring, 1, none, -1, true, 0);
        Check.readFails("a RECORD in a UNION within ten", x, w, ring, DEEP);
    }

    // ---- FULL ----

    /** Three times 41 numbers, and an ARRAY with what is missing of a count; then a field of type u. */
    private static int crowd(SchemaDesk x, int before, int from, int[] bytes, int u, int alias) {
        int items = x.type(ARRAY, x.type(BOOL, 0));
        int w = x.type(RECORD, 0);
        x.field(w, 0, items, -1, false, 0);
        x.field(w, 1, items, -1, false, 0);
        x.field(w, 2, from, -1, false, 0);
        int r = x.type(RECORD, 0);
        x.field(r, 0, items, -1, false, 0);
        x.field(r, 9, items, 0, false, 0);
        x.field(r, 8, items, 0, false, 0);
        x.field(r, 1, items, -1, false, 0);
        x.field(r, 7, u, alias, alias == -1, 5);
        x.wipe(false);
        x.add(80);
        for (int i = 0; i < 40; i++) x.add(1);
        x.add(0);
        int rest = before - 124;
        x.add(2 * rest);
        for (int i = 0; i < rest; i++) x.add(0);
        x.add(0);
        for (int b : bytes) x.add(b);
        return x.read(w, r);
    }

    private static int read(int before, int[] bytes) {
        return 42 + (before - 124) + 2 + bytes.length;
    }

    private interface Maker {
        int make(SchemaDesk x);
    }

    private static Maker plain(int kind) {
        return x -> x.type(kind, 0);
    }

    /** A value with that many numbers is taken if they are the last of 150, and not one further on. */
    private static void lastOf150(String what, int numbers, Maker maker, int... bytes) {
        SchemaDesk x = new SchemaDesk();
        int before = 150 - numbers;
        int u = maker.make(x);
        Check.due(what + " after " + before, crowd(x, before, u, bytes, u, 2), read(before, bytes));
        Check.due(what + " after " + before, x.result(-1), 150);
        Check.due(what + " after " + before + ": the first", x.result(0), 40);
        Check.due(what + " after " + before + ": none behind the last", x.result(150), SchemaDesk.REFUSED);
        if (numbers == 0) return;
        x = new SchemaDesk();
        u = maker.make(x);
        Check.due(what + " after " + (before + 1), crowd(x, before + 1, u, bytes, u, 2), FULL);
        Check.list(what + " after " + (before + 1), x);
    }

    /** "FULL if the list would have more than 150 numbers." */
    private static void hundredFiftyNumbers() {
        lastOf150("NULL", 1, plain(NULL));
        lastOf150("BOOL", 1, plain(BOOL), 1);
        lastOf150("INT", 1, plain(INT), 1);
        lastOf150("LONG", 1, plain(LONG), 1);
        lastOf150("TEXT without bytes", 1, plain(TEXT), 0);
        lastOf150("TEXT", 3, plain(TEXT), 4, 7, 8);
        lastOf150("ENUM", 1, x -> enumOf(x, 4), 0);
        lastOf150("FIXED of 0", 0, plain(FIXED));
        lastOf150("FIXED of 3", 3, x -> x.type(FIXED, 3), 7, 8, 9);
        lastOf150("ARRAY of none", 1, x -> x.type(ARRAY, x.type(NULL, 0)), 0);
        lastOf150("ARRAY of two", 3, x -> x.type(ARRAY, x.type(NULL, 0)), 4, 0);
        lastOf150("UNION", 2, x -> union(x, x.type(INT, 0)), 0, 1);
        lastOf150("UNION of what has no number", 1, x -> union(x, x.type(FIXED, 0)), 0);
        lastOf150("RECORD without fields", 0, plain(RECORD));
        lastOf150("RECORD of two", 2, x -> {
            int number = x.type(INT, 0);
            return record(x, number, number);
        }, 1, 1);
    }

    private static void lastOf150ByDefault(String what, int numbers, Maker maker) {
        SchemaDesk x = new SchemaDesk();
        int before = 150 - numbers;
        int[] none = {};
        int nothing = x.type(NULL, 0);
        Check.due(what + " by default after " + before, crowd(x, before, nothing, none, maker.make(x), -1), read(before, none));
        Check.due(what + " by default after " + before, x.result(-1), 150);
        if (numbers == 0) return;
        x = new SchemaDesk();
        nothing = x.type(NULL, 0);
        Check.due(what + " by default after " + (before + 1), crowd(x, before + 1, nothing, none, maker.make(x), -1), FULL);
        Check.list(what + " by default after " + (before + 1), x);
    }

    private static void aDefaultNumberTooMany() {
        int[] singles = {NULL, BOOL, INT, LONG};
        for (int kind : singles) lastOf150ByDefault("kind " + kind, 1, plain(kind));
        lastOf150ByDefault("TEXT", 2, plain(TEXT));
        lastOf150ByDefault("ENUM", 1, x -> enumOf(x, 4));
        lastOf150ByDefault("FIXED of 0", 0, plain(FIXED));
        lastOf150ByDefault("FIXED of 8", 8, x -> x.type(FIXED, 8));
        lastOf150ByDefault("ARRAY", 1, x -> x.type(ARRAY, x.type(NULL, 0)));
        lastOf150ByDefault("UNION", 2, x -> union(x, x.type(INT, 0)));
        lastOf150ByDefault("UNION of TEXT", 3, x -> union(x, x.type(TEXT, 0)));
        lastOf150ByDefault("RECORD without fields", 0, plain(RECORD));
        lastOf150ByDefault("RECORD of a TEXT", 2, x -> withDefault(x, x.type(TEXT, 0), 1));
    }

    /** What has no number to give is a MISMATCH with 150 numbers, too; what would give one first is FULL. */
    private static void withoutANumberToGive() {
        int[] zero = {0};
        SchemaDesk x = new SchemaDesk();
        Check.due("a symbol that r has not", crowd(x, 150, enumOf(x, 4), zero, enumOf(x, 5), 2), MISMATCH);
        x = new SchemaDesk();
        int r = enumOf(x, 5);
        x.fallback(r, 5);
        Check.due("a symbol that the fallback stands for", crowd(x, 150, enumOf(x, 4), zero, r, 2), FULL);
        x = new SchemaDesk();
        Check.due("what does not suit", crowd(x, 150, x.type(INT, 0), zero, x.type(TEXT, 0), 2), MISMATCH);
        x = new SchemaDesk();
        Check.due("no branch", crowd(x, 150, x.type(INT, 0), zero, union(x, x.type(TEXT, 0)), 2), MISMATCH);
        x = new SchemaDesk();
        Check.due("a branch", crowd(x, 150, enumOf(x, 4), zero, union(x, enumOf(x, 5)), 2), FULL);
        x = new SchemaDesk();
        Check.due("a branch, and then no symbol", crowd(x, 149, enumOf(x, 4), zero, union(x, enumOf(x, 5)), 2), MISMATCH);
        x = new SchemaDesk();
        Check.due("no symbol by default", crowd(x, 150, x.type(INT, 0), zero, enumOf(x), -1), MISMATCH);
        x = new SchemaDesk();
        Check.due("no branch by default", crowd(x, 150, x.type(INT, 0), zero, union(x), -1), MISMATCH);
        x = new SchemaDesk();
        Check.due("branch 0 by default", crowd(x, 150, x.type(INT, 0), zero, union(x, enumOf(x)), -1), FULL);
        x = new SchemaDesk();
        Check.due("branch 0 and no symbol by default", crowd(x, 149, x.type(INT, 0), zero, union(x, enumOf(x)), -1), MISMATCH);
        x = new SchemaDesk();
        Check.due("a RECORD that lacks a default", crowd(x, 150, x.type(INT, 0), zero, record(x, x.type(INT, 0)), -1), MISMATCH);
        x = new SchemaDesk();
        Check.due("an ARRAY before its values do not suit",
            crowd(x, 150, x.type(ARRAY, x.type(INT, 0)), Check.of(2, 0, 0), x.type(ARRAY, x.type(TEXT, 0)), 2), FULL);
        x = new SchemaDesk();
        Check.due("an ARRAY whose values do not suit",
            crowd(x, 149, x.type(ARRAY, x.type(INT, 0)), Check.of(2, 0, 0), x.type(ARRAY, x.type(TEXT, 0)), 2), MISMATCH);
    }

    // ---- promise 17 ----

    /** "in resolving the first that comes up counts, in the order in which the list grows". */
    private static void inTheOrderInWhichTheListGrows() {
        for (int before = 139; before < 144; before++) {
            SchemaDesk x = new SchemaDesk();
            int ring = x.type(RECORD, 0);
            x.field(ring, 0, x.type(BOOL, 0), -1, true, 1);
            x.field(ring, 1, ring, -1, true, 0);
            // Within the outermost RECORD, nine of the ring begin, each with a number.
            int due = before + 9 > 150 ? FULL : DEEP;
            Check.due("a ring with numbers after " + before, crowd(x, before, x.type(NULL, 0), Check.of(), ring, -1), due);
        }
        SchemaDesk x = new SchemaDesk();
        int empty = x.type(RECORD, 0);
        int number = x.type(INT, 0);
        int ring = x.type(RECORD, 0);
        x.field(ring, 0, ring, -1, true, 0);
        int deepFirst = x.type(RECORD, 0);
        x.field(deepFirst, 0, ring, -1, true, 0);
        x.field(deepFirst, 1, number, -1, false, 0);
        Check.readFails("DEEP, then a field without value", x, empty, deepFirst, DEEP);
        int lackFirst = x.type(RECORD, 0);
        x.field(lackFirst, 1, number, -1, false, 0);
        x.field(lackFirst, 0, ring, -1, true, 0);
        Check.readFails("a field without value, then DEEP", x, empty, lackFirst, MISMATCH);
        int inner = x.type(RECORD, 0);
        x.field(inner, 0, ring, -1, true, 0);
        int after = x.type(RECORD, 0);
        x.field(after, 0, inner, -1, true, 0);
        x.field(after, 1, x.type(ENUM, 0), -1, true, 0);
        Check.readFails("what is within comes before the next field", x, empty, after, DEEP);
    }

    /** "(a field that has no value is a MISMATCH when its turn comes)". */
    private static void aFieldThatHasNoValue() {
        for (int before = 149; before <= 150; before++) {
            SchemaDesk x = new SchemaDesk();
            int number = x.type(INT, 0);
            int two = x.type(RECORD, 0);
            x.field(two, 0, number, -1, true, 0);
            x.field(two, 1, number, -1, false, 0);
            // The default of "two" gives one number and then has no value.
            int due = before == 149 ? MISMATCH : FULL;
            Check.due("a number, then a field without value, after " + before, crowd(x, before, number, Check.of(0), two, -1), due);
        }
        SchemaDesk x = new SchemaDesk();
        int fixed = x.type(FIXED, 8);
        int full = x.type(ARRAY, fixed);
        int w = x.type(RECORD, 0);
        x.field(w, 0, full, -1, false, 0);
        int r = x.type(RECORD, 0);
        x.field(r, 0, full, -1, false, 0);
        x.field(r, 1, full, 0, false, 0);
        x.field(r, 2, full, -1, false, 0);
        x.add(24);
        for (int i = 0; i < 96; i++) x.add(i);
        x.add(0);
        Check.due("FULL comes before its turn", x.read(w, r), FULL);
        int other = x.type(RECORD, 0);
        x.field(other, 0, full, -1, false, 0);
        x.field(other, 2, full, -1, false, 0);
        x.field(other, 1, full, 0, false, 0);
        Check.due("its turn comes before FULL", x.read(w, other), MISMATCH);
    }

    /** A type may get parts after it was used, and the next read goes by them. */
    private static void typesThatGrow() {
        SchemaDesk x = new SchemaDesk();
        int w = x.type(RECORD, 0);
        int r = x.type(RECORD, 0);
        int inner = x.type(RECORD, 0);
        int number = x.type(INT, 0);
        Check.reads("no field", x, w, r, Check.of());
        x.field(r, 1, number, -1, true, 5);
        Check.reads("a field", x, w, r, Check.of(), 5);
        x.field(r, 0, inner, -1, true, 0);
        Check.reads("a field that adds nothing", x, w, r, Check.of(), 5);
        x.field(inner, 0, number, -1, true, 6);
        Check.reads("it adds a number now", x, w, r, Check.of(), 5, 6);
        x.field(w, 1, number, -1, false, 0);
        Check.reads("w has a field of r's, too", x, w, r, Check.of(14), 7, 6);
        int choice = x.type(UNION, 0);
        Check.readFails("no branch", x, number, choice, MISMATCH, 14);
        x.branch(choice, number);
        Check.reads("a branch", x, number, choice, Check.of(14), 0, 7);
        int from = enumOf(x, 1, 2);
        int to = enumOf(x, 1);
        Check.readFails("no symbol", x, from, to, MISMATCH, 2);
        x.symbol(to, 2);
        Check.reads("a symbol", x, from, to, Check.of(2), 2);
    }

    /** "there is no result then": none of a list that was begun, nor of the one before. */
    private static void aWrongReadLeavesNothing() {
        SchemaDesk x = new SchemaDesk();
        int number = x.type(INT, 0);
        int text = x.type(TEXT, 0);
        int w = record(x, number, number);
        int r = record(x, number, text);
        Check.reads("two", x, w, w, Check.of(2, 4), 1, 2);
        Check.readFails("the second does not fit", x, w, r, MISMATCH, 2, 4);
        Check.bytes("the bytes stay", x, 2, 4);
        Check.reads("two again", x, w, w, Check.of(2, 4), 1, 2);
        int ring = x.type(RECORD, 0);
        x.field(ring, 0, number, -1, true, 7);
        x.field(ring, 1, ring, -1, true, 0);
        Check.readFails("DEEP after numbers", x, record(x), ring, DEEP);
        Check.reads("two again", x, w, w, Check.of(2, 4), 1, 2);
    }
}
