/**
 * Promises 14 to 17: safe, same and different at the edges that the document names, one after the
 * other. Above each test stands the sentence that it looks at.
 */
public final class EdgesOfPairsTest {
    private static final int REFUSED = SchemaDesk.REFUSED;
    private static final int LOW = Integer.MIN_VALUE;
    private static final int HIGH = Integer.MAX_VALUE;
    private static final int NULL = 0, BOOL = 1, INT = 2, LONG = 3, TEXT = 4;
    private static final int ENUM = 5, FIXED = 6, ARRAY = 7, UNION = 8, RECORD = 9;

    public static void main(String[] args) {
        refused();
        refusedChangesNothing();
        safeByItself();
        whateverBranch();
        notSafeToItself();
        whateverSymbol();
        defaultsToo();
        onlyAMismatchCounts();
        ringsAreSafe();
        ringsOfDefaults();
        ringsThatAreNotSafe();
        allPairs();
        anArrayLeadsToItsTypes();
        aUnionWithoutBranches();
        anEnumWithoutSymbols();
        defaultsOnlyWhereAskedFor();
        oneKind();
        sameSizes();
        sameNames();
        orderOfParts();
        sameFallbacks();
        sameAliases();
        sameDefaults();
        sameTypesOfParts();
        sameWithFiveParts();
        asFarAsOneCanGo();
        differentCounts();
        nothingElseChanges();
        Check.end();
    }

    private static void safe(String what, SchemaDesk x, int w, int r, int want) {
        Check.due(what + ": safe", x.safe(w, r), want);
    }

    private static void same(String what, SchemaDesk x, int t, int u, int want) {
        Check.due(what + ": same", x.same(t, u), want);
        Check.due(what + ", turned: same", x.same(u, t), want);
    }

    private static int union(SchemaDesk x, int... types) {
        int t = x.type(UNION, 0);
        for (int u : types) x.branch(t, u);
        return t;
    }

    private static int enumOf(SchemaDesk x, int... names) {
        int t = x.type(ENUM, 0);
        for (int name : names) x.symbol(t, name);
        return t;
    }

    private static int record(SchemaDesk x, int... types) {
        int t = x.type(RECORD, 0);
        for (int i = 0; i < types.length; i++) x.field(t, i, types[i], -1, false, 0);
        return t;
    }

    private static int field(SchemaDesk x, int name, int u, int alias, boolean has, int v) {
        int t = x.type(RECORD, 0);
        x.field(t, name, u, alias, has, v);
        return t;
    }

    private static int withDefault(SchemaDesk x, int u) {
        return field(x, 0, u, -1, true, 0);
    }

    // ---- REFUSED ----

    /** "REFUSED if one is none"; "REFUSED likewise". */
    private static void refused() {
        SchemaDesk x = new SchemaDesk();
        safe("no types", x, 0, 0, REFUSED);
        Check.due("no types: same", x.same(0, 0), REFUSED);
        x.type(NULL, 0);
        x.type(UNION, 0);
        int[] none = {-1, 2, 19, 20, LOW, HIGH};
        for (int t : none) {
            safe("w is " + t, x, t, 0, REFUSED);
            safe("r is " + t, x, 0, t, REFUSED);
            safe("w is a UNION without branches, r is " + t, x, 1, t, REFUSED);
            safe("both are " + t, x, t, t, REFUSED);
            same("one is " + t, x, 0, t, REFUSED);
            same("both are " + t, x, t, t, REFUSED);
        }
        for (int t = 2; t < 20; t++) x.type(NULL, 0);
        safe("the last", x, 19, 19, 1);
        safe("behind the last", x, 19, 20, REFUSED);
        same("the last", x, 19, 0, 1);
        same("behind the last", x, 19, 20, REFUSED);
    }

    private static void refusedChangesNothing() {
        SchemaDesk x = new SchemaDesk();
        x.type(NULL, 0);
        x.safe(0, 1);
        x.same(1, 0);
        x.safe(-1, -1);
        Check.due("one type", x.different(), 1);
        Check.due("the next is 1", x.type(BOOL, 0), 1);
        safe("0 and 1", x, 0, 1, 0);
        same("0 and 1", x, 0, 1, 0);
    }

    // ---- safe ----

    /** "1 if resolving from w to r is SAFE ... else 0". */
    private static void safeByItself() {
        SchemaDesk x = new SchemaDesk();
        for (int kind = 0; kind < 8; kind++) x.type(kind, 0);
        int record = x.type(RECORD, 0);
        for (int w = 0; w <= record; w++) {
            for (int r = 0; r <= record; r++) safe(w + " to " + r, x, w, r, w == r || w == INT && r == LONG ? 1 : 0);
        }
        x = new SchemaDesk();
        for (int size = 0; size < 9; size++) x.type(FIXED, size);
        for (int w = 0; w < 9; w++) {
            for (int r = 0; r < 9; r++) safe("size " + w + " to " + r, x, w, r, w == r ? 1 : 0);
        }
    }

    /** "whatever branch a UNION of w ... is taken". */
    private static void whateverBranch() {
        SchemaDesk x = new SchemaDesk();
        int number = x.type(INT, 0);
        int big = x.type(LONG, 0);
        int text = x.type(TEXT, 0);
        int five = union(x, number, number, number, number, text);
        safe("the last of five branches to a LONG", x, five, big, 0);
        safe("to a UNION of LONG and TEXT", x, five, union(x, big, text), 1);
        safe("to a UNION of LONG", x, five, union(x, big), 0);
        safe("to itself", x, five, five, 1);
        safe("two that suit", x, union(x, number, big), big, 1);
        safe("the first does not suit", x, union(x, big, number), number, 0);
        int poor = enumOf(x, 1);
        int rich = enumOf(x, 1, 2);
        safe("r's first branch that it suits counts", x, rich, union(x, poor, rich), 0);
        safe("r's first branch that it suits is enough", x, rich, union(x, text, rich, poor), 1);
        safe("r without branches", x, number, union(x), 0);
    }

    /** Its second branch suits the first one, too, and that one lacks a symbol. */
    private static void notSafeToItself() {
        SchemaDesk x = new SchemaDesk();
        int choice = x.type(UNION, 0);
        x.branch(choice, enumOf(x, 1));
        x.branch(choice, enumOf(x, 1, 2));
        for (int i = 0; i < 3; i++) {
            safe("the UNION to itself", x, choice, choice, 0);
            safe("its branch to itself", x, 1, 1, 1);
            same("the UNION and itself", x, choice, choice, 1);
            safe("its other branch to itself", x, 2, 2, 1);
        }
    }

    /** "whatever ... symbol of an ENUM is taken". */
    private static void whateverSymbol() {
        SchemaDesk x = new SchemaDesk();
        int w = enumOf(x, 1, 2, 3, 4, 5);
        safe("all, in another order", x, w, enumOf(x, 5, 4, 3, 2, 1), 1);
        safe("all but the last", x, w, enumOf(x, 1, 2, 3, 4), 0);
        safe("all but the first", x, w, enumOf(x, 2, 3, 4, 5, 6), 0);
        safe("more than w has", x, enumOf(x, 3), w, 1);
        int r = enumOf(x, 15);
        safe("none", x, w, r, 0);
        x.fallback(w, 1);
        safe("w's fallback does not count", x, w, r, 0);
        x.fallback(r, 15);
        safe("r's fallback", x, w, r, 1);
        x.fallback(r, -1);
        safe("no fallback any more", x, w, r, 0);
        int zero = enumOf(x, 0);
        x.fallback(zero, 0);
        safe("the fallback 0", x, w, zero, 1);
    }

    /** "and defaults too". */
    private static void defaultsToo() {
        SchemaDesk x = new SchemaDesk();
        int w = x.type(RECORD, 0);
        int number = x.type(INT, 0);
        int none = enumOf(x);
        int choice = union(x);
        safe("no default", x, w, field(x, 0, number, -1, false, 0), 0);
        safe("a default", x, w, withDefault(x, number), 1);
        safe("of an ENUM without symbols", x, w, withDefault(x, none), 0);
        safe("of an ENUM with a symbol", x, w, withDefault(x, enumOf(x, 3)), 1);
        safe("of a UNION without branches", x, w, withDefault(x, choice), 0);
        safe("of an ARRAY of ENUMs without symbols", x, w, withDefault(x, x.type(ARRAY, none)), 1);
        safe("of a UNION whose branch 0 has none", x, w, withDefault(x, union(x, none, number)), 0);
        safe("of a UNION whose branch 1 has none", x, w, withDefault(x, union(x, number, none)), 1);
        x = new SchemaDesk();
        w = x.type(RECORD, 0);
        number = x.type(INT, 0);
        int inner = x.type(RECORD, 0);
        for (int i = 0; i < 4; i++) x.field(inner, i, number, -1, true, 0);
        int r = withDefault(x, inner);
        int outer = withDefault(x, r);
        safe("of a RECORD whose fields have some", x, w, r, 1);
        safe("of a RECORD in a RECORD", x, w, outer, 1);
        x.field(inner, 4, number, 0, false, 0);
        safe("of a RECORD whose last field has none", x, w, r, 0);
        safe("of a RECORD in a RECORD whose last field has none", x, w, outer, 0);
        safe("w's field of that name is not asked in a default", x, record(x, number, number), field(x, 9, inner, -1, true, 0), 0);
    }

    /** "only a MISMATCH counts, no DEEP or FULL". */
    private static void onlyAMismatchCounts() {
        SchemaDesk x = new SchemaDesk();
        int w = x.type(RECORD, 0);
        int t = x.type(INT, 0);
        for (int i = 0; i < 11; i++) t = withDefault(x, t);
        safe("eleven RECORDs", x, w, t, 1);
        Check.due("eleven RECORDs: read", x.read(w, t), SchemaDesk.DEEP);
        x = new SchemaDesk();
        w = x.type(RECORD, 0);
        t = x.type(FIXED, 8);
        for (int i = 0; i < 2; i++) {
            int outer = x.type(RECORD, 0);
            for (int k = 0; k < 5; k++) x.field(outer, k, t, -1, true, 0);
            t = outer;
        }
        safe("200 numbers", x, w, t, 1);
        Check.due("200 numbers: read", x.read(w, t), SchemaDesk.FULL);
    }

    /** "a ring that never comes to a MISMATCH is safe". */
    private static void ringsAreSafe() {
        SchemaDesk x = new SchemaDesk();
        int one = x.type(RECORD, 0);
        x.field(one, 0, one, -1, false, 0);
        int a = x.type(RECORD, 0);
        int b = record(x, a);
        x.field(a, 0, b, -1, false, 0);
        int[] ring = {one, a, b};
        for (int w : ring) {
            for (int r : ring) safe("ring " + w + " to " + r, x, w, r, 1);
        }
        int list = x.type(UNION, 0);
        int lists = x.type(ARRAY, list);
        x.branch(list, lists);
        int other = x.type(UNION, 0);
        int others = x.type(ARRAY, other);
        x.branch(other, others);
        safe("a UNION of ARRAYs of itself", x, list, other, 1);
        safe("the ARRAY to the UNION", x, lists, other, 1);
        safe("the UNION to the ARRAY", x, list, others, 1);
        safe("the ARRAY to the RECORD", x, lists, one, 0);
    }

    /** "(in defaults, too)". */
    private static void ringsOfDefaults() {
        SchemaDesk x = new SchemaDesk();
        int w = x.type(RECORD, 0);
        int ring = x.type(RECORD, 0);
        x.field(ring, 0, ring, -1, true, 0);
        safe("of itself", x, w, ring, 1);
        int choice = x.type(UNION, 0);
        int branch = withDefault(x, choice);
        x.branch(choice, branch);
        safe("over a UNION", x, w, branch, 1);
        int a = x.type(RECORD, 0);
        int b = withDefault(x, a);
        x.field(a, 0, b, -1, true, 0);
        safe("of two", x, w, a, 1);
        x.field(b, 1, x.type(INT, 0), -1, false, 0);
        safe("of two, one without a default: the other", x, w, a, 0);
        safe("of two, one without a default: itself", x, w, b, 0);
    }

    private static void ringsThatAreNotSafe() {
        SchemaDesk x = new SchemaDesk();
        int number = x.type(INT, 0);
        int text = x.type(TEXT, 0);
        int w = x.type(RECORD, 0);
        int r = x.type(RECORD, 0);
        x.field(w, 0, w, -1, false, 0);
        x.field(r, 0, r, -1, false, 0);
        safe("as yet", x, w, r, 1);
        x.field(w, 1, number, -1, false, 0);
        x.field(r, 1, text, -1, true, 0);
        safe("a field behind the ring", x, w, r, 0);
        int[] three = new int[3];
        for (int i = 0; i < 3; i++) three[i] = x.type(RECORD, 0);
        for (int i = 0; i < 3; i++) x.field(three[i], 0, three[(i + 1) % 3], -1, false, 0);
        x.field(three[2], 1, number, -1, false, 0);
        int one = x.type(RECORD, 0);
        x.field(one, 0, one, -1, false, 0);
        safe("three to one", x, three[0], one, 1);
        safe("one to three: the third has a field more", x, one, three[0], 0);
        safe("one to three, from the second on", x, one, three[1], 0);
        safe("three to three, shifted", x, three[0], three[1], 0);
    }

    /** "of all pairs to which this leads": a ring of four against one of five leads to twenty pairs. */
    private static void allPairs() {
        for (int lacking = 0; lacking < 20; lacking++) {
            SchemaDesk x = new SchemaDesk();
            int[] four = new int[4];
            int[] five = new int[5];
            for (int i = 0; i < 4; i++) four[i] = x.type(RECORD, 0);
            for (int i = 0; i < 5; i++) five[i] = x.type(RECORD, 0);
            for (int i = 0; i < 4; i++) x.field(four[i], 15, four[(i + 1) % 4], -1, false, 0);
            for (int i = 0; i < 5; i++) x.field(five[i], 15, five[(i + 1) % 5], -1, false, 0);
            // The only pair with a MISMATCH: one with the field 0 as NULL, and one with it as BOOL.
            int a = x.type(NULL, 0);
            int b = x.type(BOOL, 0);
            safe("as yet", x, four[0], five[0], 1);
            x.field(four[lacking % 4], 0, a, -1, false, 0);
            x.field(five[lacking % 5], 0, b, -1, true, 0);
            safe("pair " + lacking, x, four[0], five[0], 0);
        }
    }

    /** "an ARRAY leads to the pair of its types even if it might be empty". */
    private static void anArrayLeadsToItsTypes() {
        SchemaDesk x = new SchemaDesk();
        int number = x.type(INT, 0);
        int big = x.type(LONG, 0);
        int numbers = x.type(ARRAY, number);
        int bigs = x.type(ARRAY, big);
        safe("INTs to LONGs", x, numbers, bigs, 1);
        safe("LONGs to INTs", x, bigs, numbers, 0);
        Check.reads("none of them, all the same", x, bigs, numbers, Check.of(0), 0);
        safe("within one another", x, x.type(ARRAY, bigs), x.type(ARRAY, numbers), 0);
        safe("of a type that never is", x, x.type(ARRAY, union(x)), numbers, 1);
        safe("of a type that never is, turned", x, numbers, x.type(ARRAY, union(x)), 0);
        safe("as a field", x, record(x, bigs), record(x, numbers), 0);
    }

    /** "a UNION of w without branches is safe to every type". */
    private static void aUnionWithoutBranches() {
        SchemaDesk x = new SchemaDesk();
        int none = x.type(UNION, 0);
        for (int kind = 0; kind < 10; kind++) safe("to kind " + kind, x, none, x.type(kind, 0), 1);
        int lacking = record(x, none);
        safe("to a RECORD that it lacks", x, none, lacking, 1);
        safe("as a field", x, lacking, record(x, x.type(TEXT, 0)), 1);
        safe("to itself", x, none, none, 1);
        int full = union(x, lacking);
        safe("from one that has a branch", x, full, none, 0);
        x.branch(none, lacking);
        safe("no longer, with a branch", x, none, x.type(TEXT, 0), 0);
    }

    /** "and an ENUM without symbols to every ENUM". */
    private static void anEnumWithoutSymbols() {
        SchemaDesk x = new SchemaDesk();
        int none = x.type(ENUM, 0);
        safe("to itself", x, none, none, 1);
        safe("to another without", x, none, enumOf(x), 1);
        safe("to one with a symbol", x, none, enumOf(x, 3), 1);
        safe("from one with a symbol", x, enumOf(x, 3), none, 0);
        for (int kind = 0; kind < 10; kind++) {
            if (kind != ENUM) safe("to kind " + kind, x, none, x.type(kind, 0), 0);
        }
        safe("to a UNION of one", x, none, union(x, enumOf(x, 3)), 1);
        x.symbol(none, 4);
        safe("no longer, with a symbol", x, none, enumOf(x, 3), 0);
    }

    /** "a default is asked for only where w has no field of the name or alias". */
    private static void defaultsOnlyWhereAskedFor() {
        SchemaDesk x = new SchemaDesk();
        int none = enumOf(x);
        int empty = x.type(RECORD, 0);
        int byName = field(x, 0, none, -1, true, 0);
        int byAlias = field(x, 1, none, 0, true, 0);
        int w = record(x, none);
        safe("the name is there", x, w, byName, 1);
        safe("the alias is there", x, w, byAlias, 1);
        safe("the name is not", x, empty, byName, 0);
        safe("the alias is not", x, empty, byAlias, 0);
        safe("the name is that of an alias of w", x, byAlias, byName, 0);
        int number = x.type(INT, 0);
        safe("the name is there, so no default helps", x, w, field(x, 0, number, -1, true, 0), 0);
        safe("the alias is there, so no default helps", x, w, field(x, 1, number, 0, true, 0), 0);
        safe("the name goes before the alias", x, record(x, number, none), field(x, 1, none, 0, false, 0), 1);
        safe("a field of w that r has not", x, record(x, none, none, number), byName, 1);
        int lacking = record(x, number);
        int within = field(x, 0, lacking, -1, true, 0);
        safe("a RECORD without defaults, whose name is there", x, record(x, lacking), within, 1);
        safe("a RECORD without defaults, whose name is not there", x, empty, within, 0);
    }

    // ---- same ----

    /** "1 if two types are the SAME: of one kind". */
    private static void oneKind() {
        SchemaDesk x = new SchemaDesk();
        for (int kind = 0; kind < 10; kind++) x.type(kind, 0);
        for (int kind = 0; kind < 10; kind++) x.type(kind, 0);
        for (int t = 0; t < 20; t++) {
            for (int u = t; u < 20; u++) Check.due(t + " and " + u + ": same", x.same(t, u), t % 10 == u % 10 ? 1 : 0);
        }
        Check.due("ten and ten", x.different(), 10);
    }

    /** "with the same size". */
    private static void sameSizes() {
        SchemaDesk x = new SchemaDesk();
        for (int size = 0; size < 9; size++) x.type(FIXED, size);
        for (int size = 0; size < 9; size++) x.type(FIXED, size);
        for (int t = 0; t < 18; t++) {
            for (int u = t; u < 18; u++) Check.due(t + " and " + u + ": same", x.same(t, u), t % 9 == u % 9 ? 1 : 0);
        }
    }

    /** "names". */
    private static void sameNames() {
        SchemaDesk x = new SchemaDesk();
        int number = x.type(INT, 0);
        same("symbols", x, enumOf(x, 0, 15), enumOf(x, 0, 15), 1);
        same("the last of five symbols", x, enumOf(x, 1, 2, 3, 4, 5), enumOf(x, 1, 2, 3, 4, 6), 0);
        same("a symbol more", x, enumOf(x, 1, 2, 3, 4), enumOf(x, 1, 2, 3, 4, 5), 0);
        same("no symbol", x, enumOf(x), enumOf(x, 0), 0);
        same("fields", x, record(x, number, number), record(x, number, number), 1);
        same("a field more", x, record(x, number), record(x, number, number), 0);
        same("the only field", x, field(x, 0, number, -1, false, 0), field(x, 15, number, -1, false, 0), 0);
    }

    /** "order of parts". */
    private static void orderOfParts() {
        SchemaDesk x = new SchemaDesk();
        int number = x.type(INT, 0);
        int text = x.type(TEXT, 0);
        same("symbols", x, enumOf(x, 1, 2), enumOf(x, 2, 1), 0);
        same("branches", x, union(x, number, text), union(x, text, number), 0);
        same("branches in order", x, union(x, number, text), union(x, number, text), 1);
        same("one branch twice", x, union(x, number), union(x, number, number), 0);
        int a = x.type(RECORD, 0);
        x.field(a, 1, number, -1, false, 0);
        x.field(a, 2, number, -1, false, 0);
        int b = x.type(RECORD, 0);
        x.field(b, 2, number, -1, false, 0);
        x.field(b, 1, number, -1, false, 0);
        same("fields", x, a, b, 0);
        safe("though each is safe to the other", x, a, b, 1);
    }

    /** "fallback". */
    private static void sameFallbacks() {
        SchemaDesk x = new SchemaDesk();
        int a = enumOf(x, 0, 1);
        int b = enumOf(x, 0, 1);
        same("none of both", x, a, b, 1);
        x.fallback(a, 0);
        same("one has the fallback 0", x, a, b, 0);
        x.fallback(b, 1);
        same("two fallbacks", x, a, b, 0);
        x.fallback(b, 0);
        same("one fallback", x, a, b, 1);
        x.fallback(a, -1);
        x.fallback(b, -1);
        same("none of both again", x, a, b, 1);
    }

    /** "aliases". */
    private static void sameAliases() {
        SchemaDesk x = new SchemaDesk();
        int number = x.type(INT, 0);
        int a = field(x, 1, number, 0, false, 0);
        same("the same", x, a, field(x, 1, number, 0, false, 0), 1);
        same("another", x, a, field(x, 1, number, 15, false, 0), 0);
        same("none", x, a, field(x, 1, number, -1, false, 0), 0);
        same("its own name is not none", x, field(x, 1, number, 1, false, 0), field(x, 1, number, -1, false, 0), 0);
    }

    /** "defaults are the same if both fields have one and the ints v are equal, or if neither has one". */
    private static void sameDefaults() {
        SchemaDesk x = new SchemaDesk();
        int bool = x.type(BOOL, 0);
        int a = field(x, 1, bool, -1, true, 1);
        same("equal", x, a, field(x, 1, bool, -1, true, 1), 1);
        same("of one bit, but not equal", x, a, field(x, 1, bool, -1, true, 3), 0);
        same("the lowest and the highest", x, field(x, 1, bool, -1, true, LOW), field(x, 1, bool, -1, true, HIGH), 0);
        same("one has none", x, a, field(x, 1, bool, -1, false, 1), 0);
        same("one has 0, one has none", x, field(x, 1, bool, -1, true, 0), field(x, 1, bool, -1, false, 0), 0);
        same("neither has one: v does not count", x, field(x, 1, bool, -1, false, LOW), field(x, 1, bool, -1, false, HIGH), 1);
        int none = x.type(NULL, 0);
        same("of a NULL, not equal", x, field(x, 1, none, -1, true, 1), field(x, 1, none, -1, true, 2), 0);
    }

    /** "and with types of their parts, and of ARRAYs, that are the same". */
    private static void sameTypesOfParts() {
        SchemaDesk x = new SchemaDesk();
        int number = x.type(INT, 0);
        int again = x.type(INT, 0);
        int big = x.type(LONG, 0);
        same("ARRAYs", x, x.type(ARRAY, number), x.type(ARRAY, again), 1);
        same("ARRAYs of others", x, x.type(ARRAY, number), x.type(ARRAY, big), 0);
        same("branches", x, union(x, big, number), union(x, big, again), 1);
        same("the last branch", x, union(x, big, number), union(x, big, big), 0);
        same("fields", x, record(x, number), record(x, again), 1);
        same("the last field", x, record(x, number, big), record(x, number, again), 0);
        same("a field of its own kind", x, record(x, record(x)), record(x, record(x)), 1);
    }

    /** Types of five parts each, and behind them types that are not the same. */
    private static void sameWithFiveParts() {
        SchemaDesk x = new SchemaDesk();
        int number = x.type(INT, 0);
        int again = x.type(INT, 0);
        int[] kinds = {ENUM, UNION, RECORD};
        int[] first = new int[3];
        int[] second = new int[3];
        for (int k = 0; k < 3; k++) {
            first[k] = x.type(kinds[k], 0);
            enumOf(x, k);
            second[k] = x.type(kinds[k], 0);
            if (k < 2) enumOf(x, 15, k);
        }
        for (int i = 0; i < 5; i++) {
            x.symbol(first[0], i);
            x.symbol(second[0], i);
            x.branch(first[1], number);
            x.branch(second[1], again);
            x.field(first[2], i, number, i, true, i);
            x.field(second[2], i, again, i, true, i);
        }
        for (int k = 0; k < 3; k++) same("five parts of kind " + kinds[k], x, first[k], second[k], 1);
        for (int k = 0; k < 3; k++) safe("five parts of kind " + kinds[k], x, first[k], second[k], 1);
        x = new SchemaDesk();
        for (int t = 0; t < 18; t++) x.type(NULL, 0);
        int[] last = {x.type(RECORD, 0), x.type(RECORD, 0)};
        for (int i = 0; i < 5; i++) {
            for (int t : last) x.field(t, i, i, -1, true, i);
        }
        same("five parts of the last two types", x, last[0], last[1], 1);
        safe("five parts of the last two types", x, last[0], last[1], 1);
    }

    /** "as far as one can go". */
    private static void asFarAsOneCanGo() {
        SchemaDesk x = new SchemaDesk();
        int[] four = new int[4];
        int[] five = new int[5];
        for (int i = 0; i < 4; i++) four[i] = x.type(RECORD, 0);
        for (int i = 0; i < 5; i++) five[i] = x.type(RECORD, 0);
        for (int i = 0; i < 4; i++) x.field(four[i], 0, four[(i + 1) % 4], -1, false, 0);
        for (int i = 0; i < 5; i++) x.field(five[i], 0, five[(i + 1) % 5], -1, false, 0);
        same("a ring of four and one of five", x, four[0], five[0], 1);
        same("two of a ring", x, four[1], four[3], 1);
        Check.due("all of both", x.different(), 1);
        int number = x.type(INT, 0);
        x.field(five[4], 1, number, -1, false, 0);
        for (int t : four) {
            for (int u : five) same("one of the five has a field more", x, t, u, 0);
        }
        for (int i = 0; i < 4; i++) same("no two of the five", x, five[i], five[i + 1], 0);
        same("the four still", x, four[0], four[3], 1);
        Check.due("the four, each of the five, INT", x.different(), 7);
        x = new SchemaDesk();
        int t = x.type(INT, 0);
        int u = x.type(LONG, 0);
        for (int i = 0; i < 9; i++) {
            t = x.type(ARRAY, t);
            u = x.type(ARRAY, u);
        }
        same("nine ARRAYs around others", x, t, u, 0);
        Check.due("twenty types", x.different(), 20);
    }

    /** "How many different types there are, those that are the same counting once." */
    private static void differentCounts() {
        SchemaDesk x = new SchemaDesk();
        Check.due("no types", x.different(), 0);
        for (int t = 0; t < 20; t++) {
            x.type(TEXT, t);
            Check.due("the same " + (t + 1) + " times", x.different(), 1);
        }
        Check.due("REFUSED does not count", x.type(TEXT, 0), REFUSED);
        Check.due("twenty", x.different(), 1);
        x = new SchemaDesk();
        for (int size = 0; size < 9; size++) x.type(FIXED, size);
        for (int kind = 0; kind < 6; kind++) x.type(kind, 0);
        for (int t = 0; t < 5; t++) {
            Check.due("different ones", x.different(), 15 + t);
            x.type(ARRAY, t);
        }
        Check.due("twenty different ones", x.different(), 20);
        x = new SchemaDesk();
        int a = x.type(ENUM, 0);
        int b = x.type(ENUM, 0);
        int c = x.type(ENUM, 0);
        x.symbol(a, 1);
        Check.due("the last two", x.different(), 2);
        x.symbol(c, 1);
        Check.due("the first and the last", x.different(), 2);
        x.symbol(b, 1);
        Check.due("all three", x.different(), 1);
        x.fallback(b, 1);
        Check.due("all but the one between", x.different(), 2);
    }

    private static void nothingElseChanges() {
        SchemaDesk x = new SchemaDesk();
        int number = x.type(INT, 0);
        int w = record(x, number);
        Check.reads("a result", x, w, w, Check.of(14), 7);
        Check.setNumbers(x, 5);
        safe("w", x, w, w, 1);
        safe("w to INT", x, w, number, 0);
        same("w", x, w, w, 1);
        Check.due("two", x.different(), 2);
        Check.list("the result stays", x, 7);
        Check.bytes("the bytes stay", x, 14);
        Check.due("the numbers stay", x.write(w), 1);
        Check.bytes("the numbers stay", x, 10);
    }
}
