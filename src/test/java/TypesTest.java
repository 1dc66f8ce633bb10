/** Promises 1 to 6: a new object, type, symbol, fallback, branch, field. */
public final class TypesTest {
    private static final int REFUSED = SchemaDesk.REFUSED;
    private static final int LOW = Integer.MIN_VALUE;
    private static final int HIGH = Integer.MAX_VALUE;

    public static void main(String[] args) {
        constants();
        newObject();
        type();
        symbol();
        fallback();
        branch();
        field();
        Check.end();
    }

    private static void constants() {
        int[] codes = {SchemaDesk.REFUSED, SchemaDesk.SHORT, SchemaDesk.BAD, SchemaDesk.MUCH,
            SchemaDesk.DEEP, SchemaDesk.MISMATCH, SchemaDesk.FULL, SchemaDesk.LEFT};
        for (int i = 0; i < codes.length; i++) Check.due("constant " + i, codes[i], -1 - i);
    }

    private static void newObject() {
        SchemaDesk x = new SchemaDesk();
        Check.due("new: result(-1)", x.result(-1), 0);
        Check.due("new: result(0)", x.result(0), REFUSED);
        Check.due("new: at(0)", x.at(0), REFUSED);
        Check.due("new: different", x.different(), 0);
        Check.due("new: wipe(false)", x.wipe(false), 0);
        Check.due("new: wipe(true)", x.wipe(true), 0);
        Check.due("new: read", x.read(0, 0), REFUSED);
        Check.due("new: write", x.write(0), REFUSED);
        Check.due("new: safe", x.safe(0, 0), REFUSED);
        Check.due("new: same", x.same(0, 0), REFUSED);
        Check.due("new: symbol", x.symbol(0, 0), REFUSED);
        Check.due("new: fallback", x.fallback(0, -1), false);
        Check.due("new: branch", x.branch(0, 0), REFUSED);
        Check.due("new: field", x.field(0, 0, 0, -1, false, 0), REFUSED);
    }

    private static void type() {
        SchemaDesk x = new SchemaDesk();
        Check.due("ARRAY of itself", x.type(7, 0), REFUSED);
        int[] wrongKinds = {-1, 10, LOW, HIGH};
        for (int kind : wrongKinds) Check.due("type(" + kind + ", 0)", x.type(kind, 0), REFUSED);
        int[] wrongSizes = {-1, 9, LOW, HIGH};
        for (int a : wrongSizes) Check.due("type(6, " + a + ")", x.type(6, a), REFUSED);
        Check.due("FIXED of 0", x.type(6, 0), 0);
        Check.due("FIXED of 8", x.type(6, 8), 1);
        Check.due("ARRAY of the latest", x.type(7, 1), 2);
        int[] wrongTypes = {-1, 3, LOW, HIGH};
        for (int a : wrongTypes) Check.due("type(7, " + a + ")", x.type(7, a), REFUSED);
        int[] others = {0, 1, 2, 3, 4, 5, 8, 9};
        for (int i = 0; i < others.length; i++) Check.due("a is free for " + others[i], x.type(others[i], LOW + i), 3 + i);
        for (int i = 11; i < 20; i++) Check.due("type " + i, x.type(0, 0), i);
        Check.due("the 21st", x.type(0, 0), REFUSED);
        Check.due("the 21st, a FIXED", x.type(6, 1), REFUSED);
        Check.due("the last is there", x.same(19, 19), 1);
        Check.due("none behind it", x.same(20, 20), REFUSED);
    }

    private static void symbol() {
        SchemaDesk x = new SchemaDesk();
        for (int kind = 0; kind < 10; kind++) x.type(kind, 0);
        for (int t = -1; t < 11; t++) {
            if (t != 5) Check.due("symbol of " + t, x.symbol(t, 3), REFUSED);
        }
        int[] wrongNames = {-1, 16, LOW, HIGH};
        for (int name : wrongNames) Check.due("symbol(5, " + name + ")", x.symbol(5, name), REFUSED);
        Check.due("name 0", x.symbol(5, 0), 1);
        Check.due("name 15", x.symbol(5, 15), 2);
        Check.due("name 0 again", x.symbol(5, 0), REFUSED);
        Check.due("name 15 again", x.symbol(5, 15), REFUSED);
        for (int name = 3; name < 6; name++) Check.due("name " + name, x.symbol(5, name), name);
        Check.due("the sixth", x.symbol(5, 6), REFUSED);
        Check.setNumbers(x, 6);
        Check.due("the sixth is not there", x.write(5), SchemaDesk.BAD);
        Check.setNumbers(x, 5);
        Check.due("the fifth is there", x.write(5), 1);
        Check.bytes("the fifth", x, 8);
    }

    private static void fallback() {
        SchemaDesk x = new SchemaDesk();
        for (int kind = 0; kind < 10; kind++) x.type(kind, 0);
        int w = x.type(5, 0);
        x.symbol(w, 9);
        for (int t = -1; t < 12; t++) {
            if (t != 5 && t != w) Check.due("fallback of " + t, x.fallback(t, -1), false);
        }
        Check.due("none of an ENUM without symbols", x.fallback(5, -1), true);
        Check.due("no such symbol yet", x.fallback(5, 4), false);
        x.symbol(5, 3);
        x.symbol(5, 4);
        Check.due("not the fallback of itself", x.safe(w, 5), 0);
        Check.due("a symbol", x.fallback(5, 4), true);
        Check.due("no symbol", x.fallback(5, 5), false);
        Check.due("no name", x.fallback(5, -2), false);
        Check.due("no name at all", x.fallback(5, HIGH), false);
        Check.setBytes(x, 0);
        Check.due("it stays", x.read(w, 5), 1);
        Check.list("it stays", x, 4);
        Check.due("another symbol", x.fallback(5, 3), true);
        Check.due("another symbol", x.read(w, 5), 1);
        Check.list("another symbol", x, 3);
        Check.due("none", x.fallback(5, -1), true);
        Check.due("none", x.read(w, 5), SchemaDesk.MISMATCH);
    }

    private static void branch() {
        SchemaDesk x = new SchemaDesk();
        for (int kind = 0; kind < 10; kind++) x.type(kind, 0);
        x.type(8, 0);
        for (int t = -1; t < 12; t++) {
            if (t != 8 && t != 10) Check.due("branch of " + t, x.branch(t, 0), REFUSED);
        }
        int[] wrong = {-1, 8, 10, 11, LOW, HIGH};
        for (int u : wrong) Check.due("branch(8, " + u + ")", x.branch(8, u), REFUSED);
        Check.due("NULL", x.branch(8, 0), 1);
        Check.due("NULL again", x.branch(8, 0), 2);
        Check.due("ARRAY", x.branch(8, 7), 3);
        Check.due("RECORD", x.branch(8, 9), 4);
        Check.due("FIXED", x.branch(8, 6), 5);
        Check.due("the sixth", x.branch(8, 1), REFUSED);
        Check.setNumbers(x, 5);
        Check.due("the sixth is not there", x.write(8), SchemaDesk.BAD);
        Check.due("another UNION has its own", x.branch(10, 3), 1);
    }

    private static void field() {
        SchemaDesk x = new SchemaDesk();
        for (int kind = 0; kind < 10; kind++) x.type(kind, 0);
        for (int t = -1; t < 11; t++) {
            if (t != 9) Check.due("field of " + t, x.field(t, 0, 0, -1, false, 0), REFUSED);
        }
        int[] wrongNames = {-1, 16, LOW, HIGH};
        for (int name : wrongNames) Check.due("name " + name, x.field(9, name, 0, -1, false, 0), REFUSED);
        int[] wrongAliases = {-2, 16, LOW, HIGH};
        for (int alias : wrongAliases) Check.due("alias " + alias, x.field(9, 0, 0, alias, false, 0), REFUSED);
        int[] wrongTypes = {-1, 10, LOW, HIGH};
        for (int u : wrongTypes) Check.due("type " + u, x.field(9, 0, u, -1, false, 0), REFUSED);
        Check.due("name 0, a UNION", x.field(9, 0, 8, 15, true, LOW), 1);
        Check.due("name 0 again", x.field(9, 0, 1, -1, false, 0), REFUSED);
        Check.due("name 15, itself, alias of its own name", x.field(9, 15, 9, 15, false, HIGH), 2);
        Check.due("a name that is an alias", x.field(9, 14, 0, 0, false, 0), 3);
        Check.due("an alias that is one already", x.field(9, 13, 0, 15, false, 0), 4);
        Check.due("the fifth", x.field(9, 12, 0, -1, false, 0), 5);
        Check.due("the sixth", x.field(9, 11, 0, -1, false, 0), REFUSED);
    }
}
