/** Promises 11, 14 and 17 where RECORDs without numbers could be gone through millions of times. */
public final class HeavyTest {
    private static final int DEEP = SchemaDesk.DEEP;
    private static final int FULL = SchemaDesk.FULL;
    private static final int MISMATCH = SchemaDesk.MISMATCH;

    public static void main(String[] args) {
        defaultsOfDefaults();
        oneFieldForFive();
        rings();
        emptyThenNot();
        Check.end();
    }

    private static int fiveOf(SchemaDesk x, int u, int alias, boolean has) {
        int t = x.type(9, 0);
        for (int i = 0; i < 5; i++) x.field(t, i, u, alias, has, i);
        return t;
    }

    /** Each RECORD has five of the next one as defaults, ten levels deep; the first ends with a number. */
    private static void defaultsOfDefaults() {
        SchemaDesk x = new SchemaDesk();
        int empty = x.type(9, 0);
        int leaf = x.type(9, 0);
        int t = leaf;
        for (int i = 0; i < 8; i++) t = fiveOf(x, t, -1, true);
        int top = x.type(9, 0);
        for (int i = 0; i < 4; i++) x.field(top, i, t, -1, true, 0);
        x.field(top, 4, x.type(2, 0), -1, true, 7);
        int turned = x.type(9, 0);
        x.field(turned, 4, x.type(2, 0), -1, true, 7);
        for (int i = 0; i < 4; i++) x.field(turned, i, t, -1, true, 0);
        int array = x.type(7, empty);
        int asked = x.type(7, top);
        Check.due("nothing, 1562500 times", x.read(empty, top), 0);
        Check.list("and a number", x, 7);
        Check.due("the number before it", x.read(empty, turned), 0);
        Check.list("the number before it", x, 7);
        Check.setBytes(x, 80, 0);
        Check.due("and forty times that", x.read(array, asked), 2);
        long[] forty = new long[41];
        java.util.Arrays.fill(forty, 7);
        forty[0] = 40;
        Check.list("forty", x, forty);
        Check.due("safe", x.safe(empty, top), 1);
        x.field(leaf, 0, x.type(7, leaf), -1, true, 0);
        Check.due("a number in each", x.read(empty, top), FULL);
        x.field(leaf, 1, empty, -1, false, 0);
        Check.due("a MISMATCH in the first", x.read(empty, top), MISMATCH);
        Check.due("not safe", x.safe(empty, top), 0);
    }

    /** All five fields of r come from the only one of w, nine levels deep; the first ends with a number. */
    private static void oneFieldForFive() {
        SchemaDesk x = new SchemaDesk();
        int w = x.type(9, 0);
        int last = x.type(9, 0);
        for (int i = 0; i < 8; i++) {
            int t = x.type(9, 0);
            x.field(t, 0, w, -1, false, 0);
            w = t;
        }
        for (int i = 0; i < 7; i++) last = fiveOf(x, last, 0, false);
        int top = x.type(9, 0);
        for (int i = 0; i < 4; i++) x.field(top, i, last, 0, false, 0);
        x.field(top, 4, x.type(2, 0), -1, true, 7);
        Check.due("nothing, 312500 times", x.read(w, top), 0);
        Check.list("and a number", x, 7);
        int ring = x.type(9, 0);
        for (int i = 0; i < 5; i++) x.field(ring, i, ring, 0, i > 0, 0);
        Check.due("the innermost has no field 0", x.read(w, ring), MISMATCH);
    }

    private static void rings() {
        SchemaDesk x = new SchemaDesk();
        int empty = x.type(9, 0);
        int ring = x.type(9, 0);
        for (int i = 0; i < 4; i++) x.field(ring, i, empty, -1, true, 0);
        x.field(ring, 4, ring, -1, true, 0);
        Check.due("a ring behind four that add nothing", x.read(empty, ring), DEEP);
        Check.due("it is safe", x.safe(empty, ring), 1);
    }

    /** What adds nothing at one place may be too deep, or add something, at another. */
    private static void emptyThenNot() {
        SchemaDesk x = new SchemaDesk();
        int empty = x.type(9, 0);
        int t = empty;
        for (int i = 0; i < 9; i++) {
            int next = x.type(9, 0);
            x.field(next, 0, empty, -1, true, 0);
            x.field(next, 1, t, -1, true, 0);
            t = next;
        }
        Check.due("as deep as may be", x.read(empty, t), 0);
        int over = x.type(9, 0);
        x.field(over, 0, t, -1, true, 0);
        Check.due("one deeper", x.read(empty, over), DEEP);
        x = new SchemaDesk();
        int none = x.type(9, 0);
        int number = x.type(2, 0);
        int some = x.type(9, 0);
        x.field(some, 0, number, -1, true, 7);
        int w = x.type(9, 0);
        x.field(w, 0, none, -1, false, 0);
        int r = x.type(9, 0);
        x.field(r, 0, none, -1, false, 0);
        x.field(r, 1, some, 0, false, 0);
        x.field(r, 2, none, 0, false, 0);
        x.field(r, 3, some, 0, false, 0);
        x.field(r, 4, some, -1, true, 0);
        Check.due("one value for two types", x.read(w, r), 0);
        Check.list("one value for two types", x, 7, 7, 7);
    }
}
