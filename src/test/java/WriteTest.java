/** Promises 13 and 17: the list of a value as bytes, and what may be wrong with it. */
public final class WriteTest {
    private static final int SHORT = SchemaDesk.SHORT;
    private static final int BAD = SchemaDesk.BAD;
    private static final int MUCH = SchemaDesk.MUCH;
    private static final int DEEP = SchemaDesk.DEEP;
    private static final int FULL = SchemaDesk.FULL;
    private static final int LEFT = SchemaDesk.LEFT;

    public static void main(String[] args) {
        noType();
        numbers();
        textsAndFixeds();
        enums();
        unions();
        arrays();
        records();
        manyValues();
        deepRecords();
        full();
        firstThatIsMet();
        Check.end();
    }

    private static void gives(String what, SchemaDesk x, int t, long[] numbers, int... bytes) {
        Check.setNumbers(x, numbers);
        Check.due(what, x.write(t), bytes.length);
        Check.bytes(what, x, bytes);
        Check.due(what + ": the numbers stay", x.wipe(true), numbers.length);
    }

    private static void fails(String what, SchemaDesk x, int t, int code, long... numbers) {
        Check.setBytes(x, 9, 8, 7);
        Check.setNumbers(x, numbers);
        Check.due(what, x.write(t), code);
        Check.bytes(what + ": the bytes stay", x, 9, 8, 7);
        Check.due(what + ": the numbers stay", x.wipe(true), numbers.length);
    }

    private static long[] of(long... numbers) {
        return numbers;
    }

    private static void noType() {
        SchemaDesk x = new SchemaDesk();
        x.type(0, 0);
        int[] wrong = {-1, 1, 20, Integer.MIN_VALUE, Integer.MAX_VALUE};
        for (int t : wrong) fails("write(" + t + ")", x, t, SchemaDesk.REFUSED, 0);
    }

    private static void numbers() {
        SchemaDesk x = new SchemaDesk();
        for (int kind = 0; kind < 4; kind++) x.type(kind, 0);
        gives("NULL", x, 0, of(0));
        fails("NULL 1", x, 0, BAD, 1);
        fails("NULL", x, 0, SHORT);
        gives("false", x, 1, of(0), 0);
        gives("true", x, 1, of(1), 1);
        fails("BOOL 2", x, 1, BAD, 2);
        fails("BOOL -1", x, 1, BAD, -1);
        fails("BOOL, a long", x, 1, BAD, 1L << 32);
        gives("INT highest", x, 2, of(Integer.MAX_VALUE), 254, 255, 255, 255, 15);
        gives("INT lowest", x, 2, of(Integer.MIN_VALUE), 255, 255, 255, 255, 15);
        fails("INT one above", x, 2, BAD, 1L << 31);
        fails("INT one below", x, 2, BAD, -(1L << 31) - 1);
        gives("63", x, 3, of(63), 126);
        gives("64", x, 3, of(64), 128, 1);
        gives("-64", x, 3, of(-64), 127);
        gives("-65", x, 3, of(-65), 129, 1);
        gives("300", x, 3, of(300), 216, 4);
        gives("highest", x, 3, of(Long.MAX_VALUE), 254, 255, 255, 255, 255, 255, 255, 255, 255, 1);
        gives("lowest", x, 3, of(Long.MIN_VALUE), 255, 255, 255, 255, 255, 255, 255, 255, 255, 1);
        fails("LONG", x, 3, SHORT);
        fails("LONG and one more", x, 3, LEFT, 1, 2);
    }

    private static void textsAndFixeds() {
        SchemaDesk x = new SchemaDesk();
        int t = x.type(4, 0);
        int fixed = x.type(6, 2);
        int none = x.type(6, 0);
        gives("empty", x, t, of(0), 0);
        gives("two", x, t, of(2, 0, 255), 4, 0, 255);
        fails("21", x, t, BAD, 21);
        fails("-1", x, t, BAD, -1);
        fails("a long length", x, t, BAD, 1L << 32);
        fails("256", x, t, BAD, 2, 1, 256);
        fails("a byte -1", x, t, BAD, 2, -1);
        fails("one is missing", x, t, SHORT, 2, 1);
        fails("one more", x, t, LEFT, 1, 1, 1);
        gives("FIXED", x, fixed, of(255, 0), 255, 0);
        fails("FIXED 256", x, fixed, BAD, 1, 256);
        fails("FIXED -1", x, fixed, BAD, -1, 0);
        fails("FIXED, one is missing", x, fixed, SHORT, 1);
        gives("FIXED of 0", x, none, of());
        fails("FIXED of 0 and one more", x, none, LEFT, 0);
    }

    private static void enums() {
        SchemaDesk x = new SchemaDesk();
        int t = x.type(5, 0);
        fails("no symbols", x, t, BAD, 0);
        x.symbol(t, 15);
        x.symbol(t, 2);
        x.fallback(t, 2);
        gives("the first", x, t, of(15), 0);
        gives("the second", x, t, of(2), 2);
        fails("no symbol, though there is a fallback", x, t, BAD, 0);
        fails("a long", x, t, BAD, (1L << 32) + 2);
        fails("-1", x, t, BAD, -1);
        fails("none", x, t, SHORT);
    }

    private static void unions() {
        SchemaDesk x = new SchemaDesk();
        int t = x.type(8, 0);
        fails("no branches", x, t, BAD, 0);
        x.branch(t, x.type(0, 0));
        x.branch(t, x.type(2, 0));
        gives("the first", x, t, of(0, 0), 0);
        gives("the second", x, t, of(1, -3), 2, 5);
        fails("the third", x, t, BAD, 2, 0);
        fails("-1", x, t, BAD, -1, 0);
        fails("a long", x, t, BAD, 1L << 32, 0);
        fails("no number", x, t, SHORT);
        fails("no value", x, t, SHORT, 1);
    }

    private static void arrays() {
        SchemaDesk x = new SchemaDesk();
        int t = x.type(7, x.type(2, 0));
        int nested = x.type(7, t);
        gives("none", x, t, of(0), 0);
        gives("two", x, t, of(2, 1, -1), 4, 2, 1, 0);
        gives("within one another", x, nested, of(3, 0, 1, 7, 0), 6, 0, 2, 14, 0, 0, 0);
        fails("41 is BAD, not MUCH", x, t, BAD, 41);
        fails("-1", x, t, BAD, -1);
        fails("a long", x, t, BAD, 1L << 32);
        fails("one is missing", x, t, SHORT, 2, 1);
        fails("one more", x, t, LEFT, 1, 1, 1);
        long[] forty = new long[41];
        forty[0] = 40;
        Check.setNumbers(x, forty);
        Check.due("40", x.write(t), 42);
        Check.due("40", x.at(0), 80);
    }

    private static void records() {
        SchemaDesk x = new SchemaDesk();
        int t = x.type(9, 0);
        gives("no fields", x, t, of());
        x.field(t, 4, x.type(1, 0), -1, true, 1);
        x.field(t, 1, x.type(3, 0), -1, true, 1);
        gives("in order", x, t, of(1, 2), 1, 4);
        fails("no default is taken", x, t, SHORT, 1);
        fails("the order counts", x, t, BAD, 2, 1);
    }

    /** The same counts as in reading: all has 372 values with 39 items in its second field. */
    private static void manyValues() {
        SchemaDesk x = new SchemaDesk();
        int empty = x.type(9, 0);
        int forty = x.type(7, empty);
        int small = x.type(9, 0);
        int big = x.type(9, 0);
        int all = x.type(9, 0);
        int union = x.type(8, 0);
        x.branch(union, empty);
        for (int i = 0; i < 4; i++) x.field(small, i, forty, -1, false, 0);
        for (int i = 0; i < 2; i++) x.field(big, i, small, -1, false, 0);
        x.field(all, 0, big, -1, false, 0);
        x.field(all, 1, forty, -1, false, 0);
        x.field(all, 2, forty, -1, false, 0);
        long[] numbers = {40, 40, 40, 40, 40, 40, 40, 40, 39, 27};
        Check.setNumbers(x, numbers);
        Check.due("400 values", x.write(all), 20);
        numbers[9] = 28;
        Check.setNumbers(x, numbers);
        Check.due("401 values", x.write(all), MUCH);
        x.field(all, 3, union, -1, false, 0);
        numbers[9] = 26;
        Check.setNumbers(x, numbers);
        Check.due("399 values and a UNION: its number is needed", x.write(all), SHORT);
        x.number(0);
        Check.due("399 values, a UNION and its branch", x.write(all), MUCH);
        numbers[9] = 25;
        Check.setNumbers(x, numbers);
        x.number(0);
        Check.due("398 values, a UNION and its branch", x.write(all), 21);
        int ring = x.type(9, 0);
        x.field(ring, 0, ring, -1, false, 0);
        x.field(all, 4, ring, -1, false, 0);
        numbers[9] = 16;
        Check.setNumbers(x, numbers);
        x.number(0);
        Check.due("the eleventh RECORD is value 401", x.write(all), MUCH);
        numbers[9] = 15;
        Check.setNumbers(x, numbers);
        x.number(0);
        Check.due("the eleventh RECORD is value 400", x.write(all), DEEP);
    }

    private static void deepRecords() {
        SchemaDesk x = new SchemaDesk();
        int t = x.type(9, 0);
        int union = x.type(8, 0);
        x.branch(union, x.type(0, 0));
        x.branch(union, x.type(7, t));
        x.field(t, 0, union, -1, false, 0);
        x.wipe(true);
        for (int i = 0; i < 9; i++) {
            x.number(1);
            x.number(1);
        }
        x.number(0);
        x.number(0);
        Check.due("ten RECORDs", x.write(t), 28);
        x.wipe(true);
        for (int i = 0; i < 10; i++) {
            x.number(1);
            x.number(1);
        }
        Check.due("eleven RECORDs", x.write(t), DEEP);
    }

    private static long[] row(int first, int count, long v) {
        long[] row = new long[count + 1];
        row[0] = first;
        for (int i = 1; i <= count; i++) row[i] = v;
        return row;
    }

    private static void full() {
        SchemaDesk x = new SchemaDesk();
        int longs = x.type(7, x.type(3, 0));
        Check.setNumbers(x, row(14, 14, 1L << 41));
        Check.due("100 bytes", x.write(longs), 100);
        Check.due("the end", x.at(99), 0);
        fails("the 0 at the end is one too many", x, longs, FULL, row(11, 11, Long.MIN_VALUE >> 1));
        fails("a byte within a LONG is one too many", x, longs, FULL, row(10, 10, Long.MIN_VALUE));
        fails("FULL before the number that is missing", x, longs, FULL, row(40, 11, Long.MIN_VALUE));
        fails("FULL before LEFT", x, longs, FULL, row(11, 15, Long.MIN_VALUE));
    }

    private static void firstThatIsMet() {
        SchemaDesk x = new SchemaDesk();
        int number = x.type(2, 0);
        int two = x.type(9, 0);
        x.field(two, 0, number, -1, false, 0);
        x.field(two, 1, number, -1, false, 0);
        fails("BAD before SHORT", x, two, BAD, 1L << 40);
        fails("BAD before LEFT", x, two, BAD, 0, 1L << 40, 0);
        int longs = x.type(7, x.type(3, 0));
        int fixed = x.type(6, 1);
        int late = x.type(9, 0);
        x.field(late, 0, longs, -1, false, 0);
        x.field(late, 1, fixed, -1, false, 0);
        long[] hundred = row(14, 15, 1L << 41);
        hundred[15] = 256;
        fails("a number that is BAD before its byte too many", x, late, BAD, hundred);
        hundred[15] = 255;
        fails("a byte too many", x, late, FULL, hundred);
        fails("a number that is missing before its byte", x, late, SHORT, row(14, 14, 1L << 41));
    }
}
