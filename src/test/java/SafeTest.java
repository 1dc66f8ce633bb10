/** Promises 14 and 17: whether resolving can come to a MISMATCH. */
public final class SafeTest {
    public static void main(String[] args) {
        refused();
        kinds();
        enums();
        unions();
        arrays();
        fields();
        defaults();
        rings();
        Check.end();
    }

    private static void due(String what, SchemaDesk x, int w, int r, int want) {
        Check.due(what, x.safe(w, r), want);
    }

    private static void refused() {
        SchemaDesk x = new SchemaDesk();
        x.type(0, 0);
        int[] wrong = {-1, 1, 20, Integer.MIN_VALUE, Integer.MAX_VALUE};
        for (int t : wrong) {
            due("safe(" + t + ", 0)", x, t, 0, SchemaDesk.REFUSED);
            due("safe(0, " + t + ")", x, 0, t, SchemaDesk.REFUSED);
        }
    }

    private static void kinds() {
        SchemaDesk x = new SchemaDesk();
        for (int kind = 0; kind < 10; kind++) x.type(kind, 0);
        for (int w = 0; w < 10; w++) {
            for (int r = 0; r < 10; r++) {
                boolean fits = w == r || w == 2 && r == 3 || w == 8;
                due("kind " + w + " to kind " + r, x, w, r, fits ? 1 : 0);
            }
        }
        due("FIXED of another size", x, 6, x.type(6, 1), 0);
    }

    private static void enums() {
        SchemaDesk x = new SchemaDesk();
        int w = x.type(5, 0);
        int r = x.type(5, 0);
        due("no symbols of both", x, w, r, 1);
        x.symbol(r, 1);
        due("no symbols of w", x, w, r, 1);
        x.symbol(w, 1);
        due("the same symbol", x, w, r, 1);
        x.symbol(w, 2);
        due("one symbol more", x, w, r, 0);
        due("one symbol less", x, r, w, 1);
        x.fallback(w, 1);
        due("w's fallback does not help", x, w, r, 0);
        x.fallback(r, 1);
        due("r's fallback helps", x, w, r, 1);
    }

    private static void unions() {
        SchemaDesk x = new SchemaDesk();
        int number = x.type(2, 0);
        int big = x.type(3, 0);
        int text = x.type(4, 0);
        int w = x.type(8, 0);
        int r = x.type(8, 0);
        due("to a UNION without branches", x, number, r, 0);
        due("a UNION without branches to another", x, w, r, 1);
        due("a UNION without branches to a TEXT", x, w, text, 1);
        x.branch(w, number);
        x.branch(r, big);
        due("INT to LONG", x, w, r, 1);
        due("LONG to INT", x, r, w, 0);
        due("its only branch", x, w, number, 1);
        x.branch(w, text);
        due("its other branch to an INT", x, w, number, 0);
        due("its other branch to the UNION", x, w, r, 0);
        due("a branch of a UNION", x, text, w, 1);
        x.branch(r, text);
        due("both branches", x, w, r, 1);
        int poor = x.type(5, 0);
        int rich = x.type(5, 0);
        int enums = x.type(8, 0);
        x.symbol(rich, 1);
        x.branch(enums, poor);
        x.branch(enums, rich);
        due("the first that suits counts", x, rich, enums, 0);
        due("the other way around", x, enums, rich, 1);
    }

    private static void arrays() {
        SchemaDesk x = new SchemaDesk();
        int numbers = x.type(7, x.type(2, 0));
        int bigs = x.type(7, x.type(3, 0));
        due("INTs to LONGs", x, numbers, bigs, 1);
        due("LONGs to INTs, though there may be none", x, bigs, numbers, 0);
        due("ARRAYs of them", x, x.type(7, numbers), x.type(7, bigs), 1);
        due("an ARRAY to what is in it", x, numbers, 0, 0);
        due("ARRAYs of UNIONs without branches", x, x.type(7, x.type(8, 0)), numbers, 1);
    }

    private static void fields() {
        SchemaDesk x = new SchemaDesk();
        int number = x.type(2, 0);
        int text = x.type(4, 0);
        int w = x.type(9, 0);
        x.field(w, 0, number, 6, true, 0);
        x.field(w, 1, text, -1, false, 0);
        int none = x.type(9, 0);
        due("no field of r", x, w, none, 1);
        due("no field of w", x, none, w, 0);
        int byName = x.type(9, 0);
        x.field(byName, 1, text, -1, false, 0);
        due("by name", x, w, byName, 1);
        int byAlias = x.type(9, 0);
        x.field(byAlias, 2, text, 1, false, 0);
        due("by alias", x, w, byAlias, 1);
        int nameFirst = x.type(9, 0);
        x.field(nameFirst, 0, text, 1, true, 0);
        due("the name goes before the alias and the default", x, w, nameFirst, 0);
        int aliasFirst = x.type(9, 0);
        x.field(aliasFirst, 2, text, 0, true, 0);
        due("the alias goes before the default", x, w, aliasFirst, 0);
        int hisAlias = x.type(9, 0);
        x.field(hisAlias, 6, number, -1, false, 0);
        due("w's alias does not help", x, w, hisAlias, 0);
        int lacking = x.type(9, 0);
        x.field(lacking, 0, number, -1, false, 0);
        x.field(lacking, 9, number, -1, false, 0);
        due("the second has no value", x, w, lacking, 0);
    }

    private static int withDefault(SchemaDesk x, int u) {
        int r = x.type(9, 0);
        x.field(r, 0, u, -1, true, 0);
        return r;
    }

    private static void defaults() {
        SchemaDesk x = new SchemaDesk();
        int w = x.type(9, 0);
        int symbols = x.type(5, 0);
        int union = x.type(8, 0);
        due("ENUM without symbols", x, w, withDefault(x, symbols), 0);
        due("UNION without branches", x, w, withDefault(x, union), 0);
        due("ARRAY of ENUMs without symbols", x, w, withDefault(x, x.type(7, symbols)), 1);
        x.branch(union, symbols);
        due("UNION of an ENUM without symbols", x, w, withDefault(x, union), 0);
        int record = x.type(9, 0);
        int outer = withDefault(x, record);
        due("RECORD without fields", x, w, outer, 1);
        x.field(record, 0, w, -1, false, 0);
        due("RECORD with a field without default", x, w, outer, 0);
        due("that field is there", x, record, record, 1);
        x.symbol(symbols, 3);
        due("ENUM with a symbol", x, w, withDefault(x, symbols), 1);
        due("UNION of an ENUM with a symbol", x, w, withDefault(x, union), 1);
        x.branch(union, record);
        due("branch 0 counts alone", x, w, withDefault(x, union), 1);
        int source = x.type(9, 0);
        x.field(source, 0, symbols, -1, false, 0);
        int asked = x.type(9, 0);
        x.field(asked, 0, symbols, -1, true, 0);
        x.field(asked, 1, w, 0, true, 0);
        due("the alias is there, so the default doesn't help", x, source, asked, 0);
        int two = x.type(9, 0);
        x.field(two, 0, record, -1, true, 0);
        due("the name is there, so the default isn't asked for", x, outer, two, 1);
        due("a field without default within what isn't there", x, w, two, 0);
        int three = x.type(9, 0);
        x.field(three, 0, record, -1, false, 0);
        due("a default that would fail, of a field that is there", x, three, two, 1);
    }

    private static void rings() {
        SchemaDesk x = new SchemaDesk();
        int w = x.type(9, 0);
        int empty = x.type(9, 0);
        int ring = withDefault(x, 0);
        int own = x.type(9, 0);
        x.field(own, 0, own, -1, true, 0);
        due("a ring to itself", x, own, own, 1);
        due("a ring of defaults", x, empty, own, 1);
        due("a default", x, empty, ring, 1);
        int u = x.type(9, 0);
        int number = x.type(2, 0);
        int text = x.type(4, 0);
        x.field(w, 0, u, -1, false, 0);
        x.field(w, 1, number, -1, false, 0);
        x.field(u, 0, w, -1, false, 0);
        x.field(u, 1, text, -1, false, 0);
        due("a ring of two to itself", x, w, w, 1);
        due("a ring of two, one step on", x, w, u, 0);
        int one = x.type(9, 0);
        x.field(one, 0, one, -1, false, 0);
        due("a ring of two to a ring of one", x, w, one, 1);
        x.field(one, 1, number, -1, false, 0);
        due("the other RECORD of the ring does not fit", x, w, one, 0);
        int union = x.type(8, 0);
        int array = x.type(7, union);
        x.branch(union, array);
        int other = x.type(8, 0);
        int items = x.type(7, other);
        x.branch(other, items);
        due("UNIONs and ARRAYs", x, union, other, 1);
        due("UNIONs and ARRAYs, one step on", x, array, other, 1);
        x.branch(union, number);
        due("one of them has a branch more", x, union, other, 0);
        due("the other way around", x, other, union, 1);
    }
}
