/** Promises 11 and 17: a value of one type resolved to another, by the Term RESOLVING. */
public final class ResolveTest {
    private static final int MISMATCH = SchemaDesk.MISMATCH;
    private static final int DEEP = SchemaDesk.DEEP;
    private static final int FULL = SchemaDesk.FULL;

    public static void main(String[] args) {
        kinds();
        sizes();
        enums();
        writerUnions();
        readerUnions();
        arrays();
        namesAndAliases();
        defaults();
        defaultsThatFail();
        recordDefaults();
        deep();
        deepOrMismatch();
        full();
        firstThatComesUp();
        Check.end();
    }

    private static void gives(String what, SchemaDesk x, int w, int r, int bytes, long... list) {
        Check.due(what, x.read(w, r), bytes);
        Check.list(what, x, list);
    }

    /** A RECORD without fields, as what is written, and one with one field, as what is asked for. */
    private static int withDefault(SchemaDesk x, int u, int v) {
        int r = x.type(9, 0);
        x.field(r, 0, u, -1, true, v);
        return r;
    }

    private static void kinds() {
        SchemaDesk x = new SchemaDesk();
        for (int kind = 0; kind < 10; kind++) x.type(kind, 0);
        x.symbol(5, 0);
        x.branch(8, 0);
        Check.setBytes(x, 0);
        int[] sizes = {0, 1, 1, 1, 1, 1, 0, 1, 1, 0};
        for (int w = 0; w < 8; w++) {
            for (int r = 0; r < 10; r++) {
                boolean fits = w == r || w == 2 && r == 3 || w == 0 && r == 8;
                Check.due("kind " + w + " to kind " + r, x.read(w, r), fits ? sizes[w] : MISMATCH);
            }
        }
        Check.due("a UNION with NULL to NULL", x.read(8, 0), 1);
        Check.due("a UNION with NULL to BOOL", x.read(8, 1), MISMATCH);
        Check.due("a RECORD to a TEXT", x.read(9, 4), MISMATCH);
        Check.due("a RECORD to a RECORD", x.read(9, 9), 0);
    }

    private static void sizes() {
        SchemaDesk x = new SchemaDesk();
        int two = x.type(6, 2);
        int three = x.type(6, 3);
        int again = x.type(6, 2);
        int union = x.type(8, 0);
        x.branch(union, three);
        x.branch(union, again);
        Check.setBytes(x, 5, 6, 7);
        gives("the same size", x, two, again, 2, 5, 6);
        Check.due("another size", x.read(two, three), MISMATCH);
        gives("the branch of that size", x, two, union, 2, 1, 5, 6);
    }

    private static void enums() {
        SchemaDesk x = new SchemaDesk();
        int w = x.type(5, 0);
        int r = x.type(5, 0);
        x.symbol(w, 3);
        x.symbol(w, 4);
        x.fallback(w, 3);
        x.symbol(r, 4);
        x.symbol(r, 9);
        Check.setBytes(x, 2);
        gives("a symbol that r has", x, w, r, 1, 4);
        Check.setBytes(x, 0);
        Check.due("w's fallback does not help", x.read(w, r), MISMATCH);
        x.fallback(r, 9);
        gives("r's fallback", x, w, r, 1, 9);
        Check.setBytes(x, 2);
        gives("no fallback where r has it", x, w, r, 1, 4);
    }

    private static void writerUnions() {
        SchemaDesk x = new SchemaDesk();
        int number = x.type(2, 0);
        int text = x.type(4, 0);
        int w = x.type(8, 0);
        int r = x.type(8, 0);
        int empty = x.type(8, 0);
        x.branch(w, number);
        x.branch(w, text);
        x.branch(r, text);
        Check.setBytes(x, 2, 2, 65);
        gives("its branch to a TEXT", x, w, text, 3, 1, 65);
        gives("its branch to a UNION: r's number", x, w, r, 3, 0, 1, 65);
        Check.due("to a UNION without branches", x.read(w, empty), MISMATCH);
        Check.setBytes(x, 0, 9);
        Check.due("the other branch to a TEXT", x.read(w, text), MISMATCH);
        Check.due("the other branch to the UNION", x.read(w, r), MISMATCH);
        gives("the other branch to an INT", x, w, number, 2, -5);
    }

    private static void readerUnions() {
        SchemaDesk x = new SchemaDesk();
        int number = x.type(2, 0);
        int big = x.type(3, 0);
        int union = x.type(8, 0);
        x.branch(union, x.type(1, 0));
        x.branch(union, big);
        x.branch(union, number);
        x.branch(union, big);
        Check.setBytes(x, 9);
        gives("INT suits the LONG before the INT", x, number, union, 1, 1, -5);
        gives("LONG takes the first", x, big, union, 1, 1, -5);
        int w = x.type(5, 0);
        x.symbol(w, 1);
        int poor = x.type(5, 0);
        int enums = x.type(8, 0);
        x.branch(enums, poor);
        x.branch(enums, w);
        Check.setBytes(x, 0);
        Check.due("the first that suits, even if it fails within", x.read(w, enums), MISMATCH);
    }

    private static void arrays() {
        SchemaDesk x = new SchemaDesk();
        int number = x.type(2, 0);
        int union = x.type(8, 0);
        x.branch(union, x.type(4, 0));
        x.branch(union, x.type(3, 0));
        int w = x.type(7, number);
        int r = x.type(7, union);
        int bools = x.type(7, x.type(1, 0));
        int nested = x.type(7, w);
        int nestedUnion = x.type(7, r);
        Check.setBytes(x, 2, 5, 3, 99, 7, 9, 0);
        gives("each value, over blocks", x, w, r, 7, 3, 1, -3, 1, -4, 1, -5);
        Check.due("a value that does not fit", x.read(w, bools), MISMATCH);
        Check.setBytes(x, 0);
        gives("none that does not fit", x, w, bools, 1, 0);
        Check.setBytes(x, 4, 2, 2, 0, 4, 4, 6, 0, 0);
        gives("within one another", x, nested, nestedUnion, 9, 2, 1, 1, 1, 2, 1, 2, 1, 3);
    }

    private static void namesAndAliases() {
        SchemaDesk x = new SchemaDesk();
        int number = x.type(2, 0);
        int text = x.type(4, 0);
        int w = x.type(9, 0);
        x.field(w, 0, number, 5, true, 50);
        x.field(w, 1, text, -1, false, 0);
        x.field(w, 2, number, -1, false, 0);
        Check.setBytes(x, 2, 4, 7, 8, 6);
        int r = x.type(9, 0);
        x.field(r, 2, number, 0, false, 0);
        x.field(r, 9, number, 0, true, 90);
        x.field(r, 8, text, 1, false, 0);
        x.field(r, 7, number, 6, true, 70);
        x.field(r, 5, number, 5, true, 51);
        gives("name, alias, alias, default, and no alias of w's", x, w, r, 5, 3, 1, 2, 7, 8, 70, 51);
        int twice = x.type(9, 0);
        x.field(twice, 3, text, 1, false, 0);
        x.field(twice, 1, text, -1, false, 0);
        gives("one field of w for two of r", x, w, twice, 5, 2, 7, 8, 2, 7, 8);
        int none = x.type(9, 0);
        gives("no field of r", x, w, none, 5);
        int lacking = x.type(9, 0);
        x.field(lacking, 4, number, -1, false, 33);
        Check.due("neither name nor alias nor default", x.read(w, lacking), MISMATCH);
        int other = x.type(9, 0);
        x.field(other, 1, number, 0, true, 3);
        Check.due("the name goes before the alias and the default, even if it fails", x.read(w, other), MISMATCH);
    }

    private static void defaults() {
        SchemaDesk x = new SchemaDesk();
        int w = x.type(9, 0);
        int[] types = new int[8];
        for (int kind = 0; kind < 8; kind++) types[kind] = x.type(kind, kind == 6 ? 3 : kind == 7 ? w : 0);
        gives("NULL", x, w, withDefault(x, types[0], 9), 0, 0);
        gives("BOOL", x, w, withDefault(x, types[1], -2), 0, 0);
        gives("BOOL", x, w, withDefault(x, types[1], -1), 0, 1);
        gives("INT", x, w, withDefault(x, types[2], Integer.MIN_VALUE), 0, Integer.MIN_VALUE);
        gives("LONG", x, w, withDefault(x, types[3], -7), 0, -7);
        gives("TEXT", x, w, withDefault(x, types[4], -2), 0, 1, 254);
        gives("TEXT", x, w, withDefault(x, types[4], 256), 0, 1, 0);
        gives("FIXED", x, w, withDefault(x, types[6], -255), 0, 1, 1, 1);
        gives("ARRAY", x, w, withDefault(x, types[7], 5), 0, 0);
        x = new SchemaDesk();
        w = x.type(9, 0);
        int symbols = x.type(5, 0);
        x.symbol(symbols, 11);
        x.symbol(symbols, 12);
        x.symbol(symbols, 13);
        int[] values = {0, 1, 2, 3, -1, -3, -4, Integer.MIN_VALUE, Integer.MAX_VALUE};
        for (int v : values) gives("ENUM " + v, x, w, withDefault(x, symbols, v), 0, 11 + Math.floorMod(v, 3));
        int union = x.type(8, 0);
        x.branch(union, symbols);
        x.branch(union, w);
        gives("UNION", x, w, withDefault(x, union, 5), 0, 0, 13);
    }

    private static void defaultsThatFail() {
        SchemaDesk x = new SchemaDesk();
        int w = x.type(9, 0);
        int symbols = x.type(5, 0);
        int union = x.type(8, 0);
        Check.due("ENUM without symbols", x.read(w, withDefault(x, symbols, 0)), MISMATCH);
        Check.due("UNION without branches", x.read(w, withDefault(x, union, 0)), MISMATCH);
        x.branch(union, symbols);
        Check.due("branch 0 is an ENUM without symbols", x.read(w, withDefault(x, union, 0)), MISMATCH);
        int inner = x.type(9, 0);
        x.field(inner, 0, w, -1, false, 0);
        Check.due("RECORD with a field without default", x.read(w, withDefault(x, inner, 0)), MISMATCH);
        gives("ARRAY of what has no default", x, w, withDefault(x, x.type(7, inner), 0), 0, 0);
    }

    /** Fields of a default are not taken from w, though it has their names. */
    private static void recordDefaults() {
        SchemaDesk x = new SchemaDesk();
        int number = x.type(2, 0);
        int w = x.type(9, 0);
        int inner = x.type(9, 0);
        int r = x.type(9, 0);
        int union = x.type(8, 0);
        x.field(w, 0, number, -1, false, 0);
        x.field(inner, 0, number, 0, true, 40);
        x.field(inner, 1, number, 0, true, 41);
        x.branch(union, inner);
        x.field(r, 3, inner, -1, true, 99);
        x.field(r, 0, number, -1, true, 98);
        x.field(r, 4, union, -1, true, 97);
        Check.setBytes(x, 14);
        gives("the fields' own defaults", x, w, r, 1, 40, 41, 7, 0, 40, 41);
    }

    /** A chain of RECORDs, each the default within the one before. */
    private static int chain(SchemaDesk x, int length, int last) {
        int t = last;
        for (int i = 0; i < length; i++) t = withDefault(x, t, 0);
        return t;
    }

    private static void deep() {
        SchemaDesk x = new SchemaDesk();
        int w = x.type(9, 0);
        int number = x.type(2, 0);
        int ten = chain(x, 10, number);
        gives("ten RECORDs", x, w, ten, 0, 0);
        Check.due("eleven RECORDs", x.read(w, withDefault(x, ten, 0)), DEEP);
        int ring = x.type(9, 0);
        x.field(ring, 0, ring, -1, true, 0);
        Check.due("a ring of defaults", x.read(w, ring), DEEP);
        x = new SchemaDesk();
        w = x.type(9, 0);
        int outer = x.type(9, 0);
        x.field(outer, 1, w, -1, false, 0);
        int eight = chain(x, 8, x.type(9, 0));
        int nine = withDefault(x, eight, 0);
        int within = x.type(9, 0);
        x.field(within, 1, eight, -1, false, 0);
        Check.due("nine within one that was read", x.read(outer, within), 0);
        int deeper = x.type(9, 0);
        x.field(deeper, 1, nine, -1, false, 0);
        Check.due("ten within one that was read", x.read(outer, deeper), DEEP);
        int twice = x.type(9, 0);
        x.field(twice, 1, eight, -1, true, 0);
        x.field(twice, 2, eight, 1, true, 0);
        Check.due("twice nine side by side", x.read(w, twice), 0);
    }

    /** Within ten RECORDs of both, what does not suit a RECORD does not begin one. */
    private static void deepOrMismatch() {
        SchemaDesk x = new SchemaDesk();
        int w = x.type(0, 0);
        for (int i = 0; i < 10; i++) {
            int t = x.type(9, 0);
            x.field(t, 0, w, -1, false, 0);
            w = t;
        }
        int r = x.type(9, 0);
        x.field(r, 0, r, -1, false, 0);
        Check.due("NULL to a RECORD within ten", x.read(w, r), MISMATCH);
        x = new SchemaDesk();
        int empty = x.type(9, 0);
        w = empty;
        for (int i = 0; i < 9; i++) {
            int t = x.type(9, 0);
            x.field(t, 0, w, -1, false, 0);
            w = t;
        }
        r = x.type(9, 0);
        x.field(r, 0, r, -1, false, 0);
        Check.due("a field without value within ten", x.read(w, r), MISMATCH);
        r = x.type(9, 0);
        x.field(r, 0, r, -1, true, 0);
        Check.due("a default RECORD within ten", x.read(w, r), DEEP);
    }

    private static void full() {
        SchemaDesk x = new SchemaDesk();
        int number = x.type(3, 0);
        int w = x.type(7, number);
        int four = x.type(9, 0);
        for (int i = 0; i < 4; i++) x.field(four, i, w, 0, false, 0);
        int source = x.type(9, 0);
        x.field(source, 0, w, -1, false, 0);
        int rest = x.type(9, 0);
        for (int i = 0; i < 3; i++) x.field(rest, i, w, 0, false, 0);
        int fixed = x.type(6, 4);
        int union = x.type(8, 0);
        x.branch(union, number);
        x.field(rest, 7, x.type(6, 2), -1, true, 1);
        x.wipe(false);
        x.add(80);
        for (int i = 0; i < 40; i++) x.add(i);
        x.add(0);
        Check.due("125 numbers", x.read(source, rest), 42);
        Check.due("125 numbers", x.result(-1), 125);
        Check.due("164 numbers", x.read(source, four), FULL);
        Check.list("FULL leaves none", x);
        Check.setBytes(x, 2 * 36);
        for (int i = 0; i < 36; i++) x.add(2);
        x.add(0);
        Check.due("148 numbers", x.read(source, four), 38);
        int pair = x.type(9, 0);
        for (int i = 0; i < 4; i++) x.field(pair, i, w, 0, false, 0);
        x.field(pair, 5, union, -1, true, 9);
        Check.due("150 numbers", x.read(source, pair), 38);
        Check.due("the last", x.result(149), 9);
        int three = x.type(9, 0);
        for (int i = 0; i < 4; i++) x.field(three, i, w, 0, false, 0);
        x.field(three, 5, fixed, -1, true, 9);
        Check.due("152 numbers", x.read(source, three), FULL);
    }

    /** The list stands at 150 numbers when the last field of r has its turn. */
    private static int afterFull(SchemaDesk x, int u, int alias, boolean has) {
        int number = x.type(2, 0);
        int items = x.type(7, number);
        int lacking = x.type(5, 0);
        x.symbol(lacking, 1);
        int w = x.type(9, 0);
        x.field(w, 0, items, -1, false, 0);
        x.field(w, 1, items, -1, false, 0);
        x.field(w, 2, lacking, -1, false, 0);
        int r = x.type(9, 0);
        x.field(r, 0, items, -1, false, 0);
        x.field(r, 9, items, 0, false, 0);
        x.field(r, 8, items, 0, false, 0);
        x.field(r, 1, items, -1, false, 0);
        x.field(r, 7, u, alias, has, 0);
        x.wipe(false);
        x.add(80);
        for (int i = 0; i < 40; i++) x.add(1);
        x.add(0);
        x.add(2 * 26);
        for (int i = 0; i < 26; i++) x.add(1);
        x.add(0);
        x.add(0);
        return x.read(w, r);
    }

    private static void firstThatComesUp() {
        SchemaDesk x = new SchemaDesk();
        Check.due("nothing more to come", afterFull(x, x.type(6, 0), -1, true), 71);
        Check.due("nothing more to come", x.result(-1), 150);
        x = new SchemaDesk();
        Check.due("a number more", afterFull(x, x.type(0, 0), -1, true), FULL);
        x = new SchemaDesk();
        Check.due("a field without value", afterFull(x, x.type(0, 0), -1, false), MISMATCH);
        x = new SchemaDesk();
        Check.due("a symbol that isn't there", afterFull(x, x.type(5, 0), 2, false), MISMATCH);
        x = new SchemaDesk();
        Check.due("a default without symbols", afterFull(x, x.type(5, 0), -1, true), MISMATCH);
        x = new SchemaDesk();
        Check.due("a default without branches", afterFull(x, x.type(8, 0), -1, true), MISMATCH);
        x = new SchemaDesk();
        int union = x.type(8, 0);
        x.branch(union, x.type(5, 0));
        Check.due("the number of a branch, then a symbol that isn't there", afterFull(x, union, 2, false), FULL);
        x = new SchemaDesk();
        union = x.type(8, 0);
        x.branch(union, x.type(5, 0));
        Check.due("the number of branch 0, then no symbols", afterFull(x, union, -1, true), FULL);
        x = new SchemaDesk();
        union = x.type(8, 0);
        x.branch(union, x.type(0, 0));
        Check.due("no branch that suits", afterFull(x, union, 2, false), MISMATCH);
        x = new SchemaDesk();
        int ring = x.type(9, 0);
        x.field(ring, 0, ring, -1, true, 0);
        Check.due("a RECORD too deep", afterFull(x, ring, -1, true), DEEP);
    }
}
