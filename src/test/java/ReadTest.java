/** Promises 11, 12 and 17: the bytes of each kind, what may be wrong with them, and the result. */
public final class ReadTest {
    private static final int REFUSED = SchemaDesk.REFUSED;
    private static final int SHORT = SchemaDesk.SHORT;
    private static final int BAD = SchemaDesk.BAD;
    private static final int MUCH = SchemaDesk.MUCH;
    private static final int DEEP = SchemaDesk.DEEP;
    private static final int MISMATCH = SchemaDesk.MISMATCH;

    public static void main(String[] args) {
        longs();
        ints();
        boolsAndNulls();
        texts();
        enums();
        fixeds();
        unions();
        arrays();
        records();
        manyValues();
        deepRecords();
        muchBeforeDeep();
        results();
        readingBeforeResolving();
        Check.end();
    }

    private static void fails(String what, SchemaDesk x, int t, int code, int... bytes) {
        Check.setBytes(x, bytes);
        Check.due(what, x.read(t, t), code);
        Check.due(what + ": no result", x.result(-1), 0);
        Check.due(what + ": no number", x.result(0), REFUSED);
    }

    private static void gives(String what, SchemaDesk x, int t, int[] bytes, long... list) {
        Check.setBytes(x, bytes);
        Check.due(what, x.read(t, t), bytes.length);
        Check.list(what, x, list);
        x.add(77);
        Check.due(what + ", and a byte more", x.read(t, t), bytes.length);
    }

    private static int[] of(int... bytes) {
        return bytes;
    }

    private static void longs() {
        SchemaDesk x = new SchemaDesk();
        int t = x.type(3, 0);
        gives("0", x, t, of(0), 0);
        gives("-1", x, t, of(1), -1);
        gives("1", x, t, of(2), 1);
        gives("-64", x, t, of(127), -64);
        gives("64", x, t, of(128, 1), 64);
        gives("300", x, t, of(216, 4), 300);
        gives("a zero at the end", x, t, of(130, 0), 1);
        gives("nine zeros", x, t, of(128, 128, 128, 128, 128, 128, 128, 128, 128, 0), 0);
        gives("63 bits", x, t, of(254, 255, 255, 255, 255, 255, 255, 255, 127), 4611686018427387903L);
        x = new SchemaDesk();
        x.type(3, 0);
        gives("highest", x, t, of(254, 255, 255, 255, 255, 255, 255, 255, 255, 1), Long.MAX_VALUE);
        gives("lowest", x, t, of(255, 255, 255, 255, 255, 255, 255, 255, 255, 1), Long.MIN_VALUE);
        fails("tenth is 2", x, t, BAD, 254, 255, 255, 255, 255, 255, 255, 255, 255, 2);
        fails("tenth is 128", x, t, BAD, 254, 255, 255, 255, 255, 255, 255, 255, 255, 128, 0);
        fails("tenth is 129", x, t, BAD, 254, 255, 255, 255, 255, 255, 255, 255, 255, 129);
        fails("no byte", x, t, SHORT);
        fails("no second byte", x, t, SHORT, 128);
        fails("no tenth byte", x, t, SHORT, 255, 255, 255, 255, 255, 255, 255, 255, 255);
    }

    private static void ints() {
        SchemaDesk x = new SchemaDesk();
        int t = x.type(2, 0);
        gives("highest", x, t, of(254, 255, 255, 255, 15), Integer.MAX_VALUE);
        gives("lowest", x, t, of(255, 255, 255, 255, 15), Integer.MIN_VALUE);
        gives("long form", x, t, of(131, 128, 128, 128, 128, 128, 128, 128, 128, 0), -2);
        fails("one above", x, t, BAD, 128, 128, 128, 128, 16);
        fails("one below", x, t, BAD, 129, 128, 128, 128, 16);
        fails("lowest long", x, t, BAD, 255, 255, 255, 255, 255, 255, 255, 255, 255, 1);
        fails("short", x, t, SHORT, 128, 128);
    }

    private static void boolsAndNulls() {
        SchemaDesk x = new SchemaDesk();
        int none = x.type(0, 0);
        int t = x.type(1, 0);
        gives("NULL", x, none, of(), 0);
        gives("false", x, t, of(0), 0);
        gives("true", x, t, of(1), 1);
        fails("2", x, t, BAD, 2);
        fails("a long 0 is none", x, t, BAD, 128, 0);
        fails("no byte", x, t, SHORT);
    }

    private static void texts() {
        SchemaDesk x = new SchemaDesk();
        int t = x.type(4, 0);
        gives("empty", x, t, of(0), 0);
        gives("two", x, t, of(4, 255, 0), 2, 255, 0);
        int[] bytes = new int[21];
        long[] list = new long[21];
        bytes[0] = 40;
        list[0] = 20;
        for (int i = 1; i < 21; i++) list[i] = bytes[i] = 200 + i;
        gives("twenty", x, t, bytes, list);
        fails("21", x, t, BAD, 42);
        fails("-1", x, t, BAD, 1);
        fails("2 to the 32nd", x, t, BAD, 128, 128, 128, 128, 32);
        fails("no length", x, t, SHORT);
        fails("one is missing", x, t, SHORT, 4, 1);
    }

    private static void enums() {
        SchemaDesk x = new SchemaDesk();
        int t = x.type(5, 0);
        fails("without symbols", x, t, BAD, 0);
        fails("without symbols or bytes", x, t, SHORT);
        x.symbol(t, 9);
        x.symbol(t, 4);
        x.fallback(t, 4);
        gives("the first", x, t, of(0), 9);
        gives("the second", x, t, of(130, 0), 4);
        fails("the third", x, t, BAD, 4);
        fails("-1", x, t, BAD, 1);
        fails("2 to the 32nd", x, t, BAD, 128, 128, 128, 128, 32);
    }

    private static void fixeds() {
        SchemaDesk x = new SchemaDesk();
        int none = x.type(6, 0);
        int t = x.type(6, 2);
        gives("of 0", x, none, of());
        gives("of 2", x, t, of(255, 3), 255, 3);
        fails("one is missing", x, t, SHORT, 1);
    }

    private static void unions() {
        SchemaDesk x = new SchemaDesk();
        int t = x.type(8, 0);
        fails("without branches", x, t, BAD, 0);
        int number = x.type(3, 0);
        int text = x.type(4, 0);
        x.branch(t, number);
        x.branch(t, text);
        gives("the first", x, t, of(0, 6), 0, 3);
        gives("the second", x, t, of(2, 2, 9), 1, 1, 9);
        fails("the third", x, t, BAD, 4);
        fails("-1", x, t, BAD, 1);
        fails("2 to the 32nd", x, t, BAD, 128, 128, 128, 128, 32, 0);
        fails("no number", x, t, SHORT);
        fails("no value", x, t, SHORT, 2);
    }

    private static void arrays() {
        SchemaDesk x = new SchemaDesk();
        int t = x.type(7, x.type(2, 0));
        gives("none", x, t, of(0), 0);
        gives("one block", x, t, of(4, 2, 1, 0), 2, 1, -1);
        gives("two blocks", x, t, of(4, 2, 1, 2, 6, 0), 3, 1, -1, 3);
        gives("a block with a size that says nothing", x, t, of(3, 253, 1, 8, 10, 2, 12, 0), 3, 4, 5, 6);
        fails("the size must be a LONG", x, t, BAD, 1, 255, 255, 255, 255, 255, 255, 255, 255, 255, 2);
        fails("no size", x, t, SHORT, 1);
        fails("no end", x, t, SHORT, 2, 2);
        fails("no head", x, t, SHORT);
        fails("41 says so at once", x, t, MUCH, 82);
        fails("-41 says so before its size", x, t, MUCH, 81);
        fails("the lowest long", x, t, MUCH, 255, 255, 255, 255, 255, 255, 255, 255, 255, 1);
        fails("the highest long", x, t, MUCH, 254, 255, 255, 255, 255, 255, 255, 255, 255, 1);
        fails("2 to the 32nd", x, t, MUCH, 128, 128, 128, 128, 32);
        x = new SchemaDesk();
        t = x.type(7, x.type(0, 0));
        Check.setBytes(x, 80, 0);
        Check.due("40", x.read(t, t), 2);
        Check.due("40", x.result(-1), 41);
        Check.due("40", x.result(0), 40);
        Check.setBytes(x, 40, 39, 9, 0);
        Check.due("20 and 20", x.read(t, t), 4);
        Check.due("20 and 20", x.result(-1), 41);
        fails("20 and 21", x, t, MUCH, 40, 42);
        fails("40 and -1", x, t, MUCH, 80, 1);
    }

    private static void records() {
        SchemaDesk x = new SchemaDesk();
        int t = x.type(9, 0);
        gives("without fields", x, t, of());
        int bool = x.type(1, 0);
        x.field(t, 3, x.type(2, 0), -1, false, 0);
        x.field(t, 1, bool, -1, false, 0);
        gives("in order", x, t, of(6, 1), 3, 1);
        fails("the second field", x, t, BAD, 6, 2);
        fails("no second field", x, t, SHORT, 6);
    }

    /** RECORDs with ten ARRAYs of at most 40 RECORDs without fields, so that 400 values need few bytes. */
    private static void manyValues() {
        SchemaDesk x = new SchemaDesk();
        int empty = x.type(9, 0);
        int forty = x.type(7, empty);
        int small = x.type(9, 0);
        int big = x.type(9, 0);
        int all = x.type(9, 0);
        for (int i = 0; i < 4; i++) x.field(small, i, forty, -1, false, 0);
        for (int i = 0; i < 2; i++) x.field(big, i, small, -1, false, 0);
        x.field(all, 0, big, -1, false, 0);
        x.field(all, 1, forty, -1, false, 0);
        // all, big, two small and eight ARRAYs with 40 each are 332; the ninth ARRAY has 39.
        int[] bytes = new int[19];
        for (int i = 0; i < 8; i++) bytes[2 * i] = 80;
        bytes[16] = 78;
        bytes[17] = 0;
        Check.setBytes(x, bytes);
        Check.due("372 values", x.read(all, all), 18);
        x.field(all, 2, forty, -1, false, 0);
        bytes[18] = 2 * 26;
        Check.setBytes(x, bytes);
        x.add(0);
        Check.due("399 values", x.read(all, all), 20);
        bytes[18] = 2 * 27;
        Check.setBytes(x, bytes);
        x.add(0);
        Check.due("400 values", x.read(all, all), 20);
        bytes[18] = 2 * 28;
        Check.setBytes(x, bytes);
        Check.due("401 values come before the missing byte", x.read(all, all), MUCH);
        int union = x.type(8, 0);
        x.branch(union, empty);
        x.field(all, 3, union, -1, false, 0);
        bytes[18] = 2 * 25;
        Check.setBytes(x, bytes);
        x.add(0);
        x.add(0);
        Check.due("398 values, a UNION and its branch", x.read(all, all), 21);
        bytes[18] = 2 * 26;
        Check.setBytes(x, bytes);
        x.add(0);
        Check.due("399 values and a UNION: its number is needed", x.read(all, all), SHORT);
        x.add(0);
        Check.due("399 values, a UNION and its branch", x.read(all, all), MUCH);
    }

    /** RECORDs in a ring over a UNION of NULL and an ARRAY. */
    private static void deepRecords() {
        SchemaDesk x = new SchemaDesk();
        int t = x.type(9, 0);
        int union = x.type(8, 0);
        int array = x.type(7, t);
        x.branch(union, x.type(0, 0));
        x.branch(union, array);
        x.field(t, 0, union, -1, false, 0);
        x.wipe(false);
        for (int i = 0; i < 9; i++) {
            x.add(2);
            x.add(2);
        }
        for (int i = 0; i < 10; i++) x.add(0);
        Check.due("ten RECORDs", x.read(t, t), 28);
        Check.due("ten RECORDs", x.result(-1), 20);
        x.wipe(false);
        for (int i = 0; i < 10; i++) {
            x.add(2);
            x.add(2);
        }
        Check.due("eleven RECORDs", x.read(t, t), DEEP);
        x.wipe(false);
        x.add(2);
        x.add(80);
        for (int i = 0; i < 40; i++) x.add(0);
        x.add(0);
        Check.due("forty within one", x.read(t, t), 43);
    }

    /** The eleventh RECORD of a ring begins as the 400th, 401st or a later value. */
    private static void muchBeforeDeep() {
        for (int items = 56; items < 59; items++) {
            SchemaDesk x = new SchemaDesk();
            int none = x.type(6, 0);
            int forty = x.type(7, none);
            int top = x.type(9, 0);
            int eight = x.type(9, 0);
            int four = x.type(9, 0);
            int ring = x.type(9, 0);
            for (int i = 0; i < 4; i++) x.field(four, i, forty, -1, false, 0);
            for (int i = 0; i < 2; i++) x.field(eight, i, four, -1, false, 0);
            x.field(ring, 0, ring, -1, false, 0);
            x.field(top, 0, eight, -1, false, 0);
            x.field(top, 1, forty, -1, false, 0);
            x.field(top, 2, forty, -1, false, 0);
            x.field(top, 3, ring, -1, false, 0);
            x.wipe(false);
            for (int i = 0; i < 8; i++) {
                x.add(80);
                x.add(0);
            }
            x.add(2 * 30);
            x.add(0);
            x.add(2 * (items - 30));
            x.add(0);
            // top, eight, two of four, 8 * 41 and 2 ARRAYs are 334; nine of the ring may begin within top.
            int before = 334 + items + 9;
            Check.due(before + " values before the eleventh RECORD", x.read(top, top), before < 400 ? DEEP : MUCH);
        }
    }

    private static void results() {
        SchemaDesk x = new SchemaDesk();
        int t = x.type(4, 0);
        int bool = x.type(1, 0);
        Check.setBytes(x, 4, 7, 8);
        Check.due("read", x.read(t, t), 3);
        Check.list("read", x, 2, 7, 8);
        int[] none = {-2, 3, 150, Integer.MIN_VALUE, Integer.MAX_VALUE};
        for (int k : none) Check.due("result(" + k + ")", x.result(k), REFUSED);
        int[] wrong = {-1, 2, Integer.MIN_VALUE, Integer.MAX_VALUE};
        for (int u : wrong) {
            Check.due("read(" + u + ", 0)", x.read(u, t), REFUSED);
            Check.due("read(0, " + u + ")", x.read(t, u), REFUSED);
        }
        Check.list("REFUSED leaves it", x, 2, 7, 8);
        Check.bytes("the bytes stay", x, 4, 7, 8);
        Check.due("a MISMATCH", x.read(t, bool), MISMATCH);
        Check.list("a MISMATCH leaves none", x);
        x.read(t, t);
        Check.due("BAD", x.read(bool, bool), BAD);
        Check.list("BAD leaves none", x);
    }

    private static void readingBeforeResolving() {
        SchemaDesk x = new SchemaDesk();
        int number = x.type(2, 0);
        int text = x.type(4, 0);
        int w = x.type(9, 0);
        int r = x.type(9, 0);
        x.field(w, 0, number, -1, false, 0);
        x.field(w, 1, number, -1, false, 0);
        x.field(r, 0, text, -1, false, 0);
        Check.setBytes(x, 2);
        Check.due("SHORT in the second field", x.read(w, r), SHORT);
        x.add(2);
        Check.due("then the MISMATCH of the first", x.read(w, r), MISMATCH);
    }
}
