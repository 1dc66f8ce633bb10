/** Promises 15, 16 and 17: which types are the same, and how many different ones there are. */
public final class SameTest {
    private static final int REFUSED = SchemaDesk.REFUSED;

    public static void main(String[] args) {
        refused();
        kinds();
        enums();
        unions();
        fieldParts();
        defaults();
        rings();
        growing();
        Check.end();
    }

    private static void due(String what, SchemaDesk x, int t, int u, int want) {
        Check.due(what, x.same(t, u), want);
        Check.due(what + ", turned", x.same(u, t), want);
    }

    private static void refused() {
        SchemaDesk x = new SchemaDesk();
        Check.due("no types", x.different(), 0);
        x.type(0, 0);
        int[] wrong = {-1, 1, 20, Integer.MIN_VALUE, Integer.MAX_VALUE};
        for (int t : wrong) due("same(0, " + t + ")", x, 0, t, REFUSED);
        Check.due("one type", x.different(), 1);
    }

    private static void kinds() {
        SchemaDesk x = new SchemaDesk();
        for (int kind = 0; kind < 10; kind++) x.type(kind, 0);
        for (int kind = 0; kind < 10; kind++) x.type(kind, kind == 6 || kind == 7 ? 0 : 5);
        for (int t = 0; t < 20; t++) {
            for (int u = 0; u < 20; u++) Check.due("same(" + t + ", " + u + ")", x.same(t, u), t % 10 == u % 10 ? 1 : 0);
        }
        Check.due("ten kinds", x.different(), 10);
        x = new SchemaDesk();
        for (int size = 0; size < 9; size++) x.type(6, size);
        x.type(6, 4);
        Check.due("nine sizes", x.different(), 9);
        due("one size", x, 4, 9, 1);
        int a = x.type(7, 4);
        int b = x.type(7, 9);
        int c = x.type(7, 5);
        due("ARRAYs of the same", x, a, b, 1);
        due("ARRAYs of others", x, a, c, 0);
        due("ARRAYs of ARRAYs", x, x.type(7, a), x.type(7, b), 1);
        due("ARRAYs of other ARRAYs", x, x.type(7, a), x.type(7, c), 0);
    }

    private static void enums() {
        SchemaDesk x = new SchemaDesk();
        int a = x.type(5, 0);
        int b = x.type(5, 0);
        int turned = x.type(5, 0);
        x.symbol(a, 1);
        due("a symbol more", x, a, b, 0);
        x.symbol(b, 1);
        due("the same symbol", x, a, b, 1);
        x.symbol(a, 2);
        x.symbol(b, 2);
        x.symbol(turned, 2);
        x.symbol(turned, 1);
        due("the same symbols", x, a, b, 1);
        due("another order", x, a, turned, 0);
        x.fallback(a, 2);
        due("a fallback", x, a, b, 0);
        x.fallback(b, 1);
        due("another fallback", x, a, b, 0);
        x.fallback(b, 2);
        due("the same fallback", x, a, b, 1);
        Check.due("two of three", x.different(), 2);
    }

    private static void unions() {
        SchemaDesk x = new SchemaDesk();
        int one = x.type(2, 0);
        int two = x.type(2, 0);
        int text = x.type(4, 0);
        int a = x.type(8, 0);
        int b = x.type(8, 0);
        int turned = x.type(8, 0);
        x.branch(a, one);
        x.branch(a, text);
        x.branch(b, two);
        due("a branch more", x, a, b, 0);
        x.branch(b, text);
        x.branch(turned, text);
        x.branch(turned, one);
        due("branches that are the same", x, a, b, 1);
        due("another order", x, a, turned, 0);
    }

    /** A RECORD with one field made of what is given. */
    private static int record(SchemaDesk x, int name, int u, int alias, boolean has, int v) {
        int t = x.type(9, 0);
        x.field(t, name, u, alias, has, v);
        return t;
    }

    private static void fieldParts() {
        SchemaDesk x = new SchemaDesk();
        int number = x.type(2, 0);
        int again = x.type(2, 0);
        int big = x.type(3, 0);
        int a = record(x, 1, number, 2, true, 7);
        due("all the same", x, a, record(x, 1, again, 2, true, 7), 1);
        due("name", x, a, record(x, 3, number, 2, true, 7), 0);
        due("type", x, a, record(x, 1, big, 2, true, 7), 0);
        due("alias", x, a, record(x, 1, number, 3, true, 7), 0);
        due("no alias", x, a, record(x, 1, number, -1, true, 7), 0);
        due("default", x, a, record(x, 1, number, 2, true, 8), 0);
        due("no default", x, a, record(x, 1, number, 2, false, 7), 0);
        int more = record(x, 1, number, 2, true, 7);
        x.field(more, 5, number, -1, false, 0);
        due("a field more", x, a, more, 0);
        int turned = record(x, 5, number, -1, false, 0);
        x.field(turned, 1, number, 2, true, 7);
        due("another order", x, more, turned, 0);
        Check.due("of 13 types", x.different(), 11);
    }

    private static void defaults() {
        SchemaDesk x = new SchemaDesk();
        int bool = x.type(1, 0);
        due("v does not count without a default", x, record(x, 0, bool, -1, false, 1), record(x, 0, bool, -1, false, 2), 1);
        due("the ints count, not what they give", x, record(x, 0, bool, -1, true, 1), record(x, 0, bool, -1, true, 3), 0);
    }

    private static void rings() {
        SchemaDesk x = new SchemaDesk();
        int one = x.type(9, 0);
        x.field(one, 0, one, -1, false, 0);
        int[] three = new int[3];
        for (int i = 0; i < 3; i++) three[i] = x.type(9, 0);
        for (int i = 0; i < 3; i++) x.field(three[i], 0, three[(i + 1) % 3], -1, false, 0);
        due("a ring of one and a ring of three", x, one, three[0], 1);
        due("two of a ring", x, three[1], three[2], 1);
        Check.due("all the same", x.different(), 1);
        int union = x.type(8, 0);
        int array = x.type(7, union);
        x.branch(union, array);
        int array2 = x.type(7, union);
        int union2 = x.type(8, 0);
        x.branch(union2, array2);
        due("UNIONs in a ring", x, union, union2, 1);
        due("ARRAYs in a ring", x, array, array2, 1);
        due("UNION and ARRAY", x, union, array, 0);
        Check.due("three", x.different(), 3);
        x.field(three[2], 1, one, -1, false, 0);
        due("far on they are not", x, one, three[0], 0);
        due("nor here", x, three[0], three[1], 0);
        Check.due("four more", x.different(), 6);
    }

    /** What was the same may be so no longer when parts come to it. */
    private static void growing() {
        SchemaDesk x = new SchemaDesk();
        int a = x.type(9, 0);
        int b = x.type(9, 0);
        int inA = x.type(5, 0);
        int inB = x.type(5, 0);
        x.field(a, 0, inA, -1, false, 0);
        x.field(b, 0, inB, -1, false, 0);
        due("as yet", x, a, b, 1);
        Check.due("as yet", x.different(), 2);
        x.symbol(inA, 4);
        due("no longer", x, a, b, 0);
        Check.due("no longer", x.different(), 4);
        x.symbol(inB, 4);
        due("again", x, a, b, 1);
    }
}
