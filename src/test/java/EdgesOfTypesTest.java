/**
 * Terms, TYPES, and promises 1 to 6, 17: the edges that the document names, one after the other.
 * Above each test stands the sentence that it looks at.
 */
public final class EdgesOfTypesTest {
    private static final int REFUSED = SchemaDesk.REFUSED;
    private static final int BAD = SchemaDesk.BAD;
    private static final int LEFT = SchemaDesk.LEFT;
    private static final int MISMATCH = SchemaDesk.MISMATCH;
    private static final int SHORT = SchemaDesk.SHORT;
    private static final int LOW = Integer.MIN_VALUE;
    private static final int HIGH = Integer.MAX_VALUE;
    private static final int ENUM = 5, FIXED = 6, ARRAY = 7, UNION = 8, RECORD = 9;

    public static void main(String[] args) {
        aNewObjectHasNothing();
        objectsShareNothing();
        twentyTypes();
        kindsFrom0To9();
        fixedOf0To8Bytes();
        arrayOfATypeThatIsThere();
        aCountsForFixedAndArrayOnly();
        aDoesNotShowLater();
        aRefusedTypeLeavesNothing();
        fiveSymbols();
        symbolNames();
        symbolsAreDifferent();
        symbolsOfAnEnumAlone();
        partsOfAllTypes();
        fallbackIsOneOfThem();
        fallbackNone();
        fallbackOfAnEnumAlone();
        fiveBranches();
        branchesAreNoUnions();
        branchesOfAUnionAlone();
        fiveFields();
        fieldNames();
        fieldNamesAreDifferent();
        fieldAliases();
        fieldTypes();
        fieldsOfARecordAlone();
        defaultsAreInts();
        Check.end();
    }

    private static SchemaDesk withAllKinds() {
        SchemaDesk x = new SchemaDesk();
        for (int kind = 0; kind < 10; kind++) x.type(kind, 0);
        return x;
    }

    // ---- promise 1 ----

    /** "No types, bytes, numbers; nothing was read." */
    private static void aNewObjectHasNothing() {
        Check.due("no type", new SchemaDesk().same(0, 0), REFUSED);
        Check.due("no type to be different", new SchemaDesk().different(), 0);
        Check.due("the first type is 0", new SchemaDesk().type(0, 0), 0);
        Check.due("no byte", new SchemaDesk().at(0), REFUSED);
        Check.due("no bytes to wipe", new SchemaDesk().wipe(false), 0);
        Check.due("the first byte", new SchemaDesk().add(7), 1);
        Check.due("no numbers to wipe", new SchemaDesk().wipe(true), 0);
        Check.due("the first number", new SchemaDesk().number(7), 1);
        Check.list("no result", new SchemaDesk());
        SchemaDesk x = new SchemaDesk();
        int bool = x.type(1, 0);
        Check.due("no byte to read", x.read(bool, bool), SHORT);
        Check.due("no number to write", x.write(bool), SHORT);
    }

    private static void objectsShareNothing() {
        SchemaDesk x = withAllKinds();
        x.symbol(ENUM, 3);
        x.fallback(ENUM, 3);
        x.add(1);
        x.number(1);
        x.read(1, 1);
        SchemaDesk y = new SchemaDesk();
        Check.due("its types", y.different(), 0);
        Check.due("its bytes", y.wipe(false), 0);
        Check.due("its numbers", y.wipe(true), 0);
        Check.list("its result", y);
        y.type(ENUM, 0);
        Check.due("its symbols", y.symbol(0, 3), 1);
        Check.list("the other's result stays", x, 1);
        Check.due("the other's bytes stay", x.wipe(false), 1);
        Check.due("the other's types stay", x.type(0, 0), 10);
    }

    // ---- promise 2 ----

    /** "TYPES 0 .. 19"; "REFUSED if there are 20". */
    private static void twentyTypes() {
        SchemaDesk x = new SchemaDesk();
        for (int t = 0; t < 20; t++) Check.due("type " + t, x.type(t % 7, 0), t);
        for (int kind = 0; kind < 10; kind++) Check.due("the 21st, of kind " + kind, x.type(kind, 0), REFUSED);
        Check.due("19 is there", x.same(19, 19), 1);
        Check.due("20 is not", x.same(19, 20), REFUSED);
        Check.due("19 has kept its kind", x.same(19, 5), 1);
    }

    /** "a kind: 0 NULL, 1 BOOL, ... 9 RECORD"; "REFUSED if ... kind ... is none". */
    private static void kindsFrom0To9() {
        int[] wrong = {-1, 10, LOW, HIGH};
        for (int kind : wrong) {
            SchemaDesk x = new SchemaDesk();
            Check.due("kind " + kind, x.type(kind, 0), REFUSED);
            Check.due("kind " + kind + " left no type", x.different(), 0);
            Check.due("kind " + kind + " took no number", x.type(0, 0), 0);
        }
        SchemaDesk x = withAllKinds();
        for (int t = 0; t < 10; t++) {
            for (int u = 0; u < 10; u++) Check.due("kinds " + t + " and " + u, x.same(t, u), t == u ? 1 : 0);
        }
        x = withAllKinds();
        Check.due("5 takes symbols", x.symbol(5, 0), 1);
        Check.due("8 takes branches", x.branch(8, 0), 1);
        Check.due("9 takes fields", x.field(9, 0, 0, -1, false, 0), 1);
        Check.writes("0 is NULL", x, 0, Check.row(0));
        Check.writes("1 is BOOL", x, 1, Check.row(1), 1);
        Check.writes("2 is INT", x, 2, Check.row(HIGH), 254, 255, 255, 255, 15);
        Check.writeFails("2 is INT", x, 2, BAD, 1L + HIGH);
        Check.writes("3 is LONG", x, 3, Check.row(1L + HIGH), 128, 128, 128, 128, 16);
        Check.writes("4 is TEXT", x, 4, Check.row(1, 99), 2, 99);
        Check.writes("5 is ENUM", x, 5, Check.row(0), 0);
        Check.writes("6 is FIXED", x, 6, Check.row());
        Check.writes("7 is ARRAY", x, 7, Check.row(1, 0), 2, 0);
        Check.writes("8 is UNION", x, 8, Check.row(0, 0), 0);
        Check.writes("9 is RECORD", x, 9, Check.row(0));
    }

    /** "6 FIXED (of 0 .. 8 bytes)"; "a is FIXED's size"; "REFUSED if ... a is none". */
    private static void fixedOf0To8Bytes() {
        int[] wrong = {-1, 9, 256, LOW, HIGH};
        for (int size : wrong) {
            SchemaDesk x = new SchemaDesk();
            Check.due("FIXED of " + size, x.type(FIXED, size), REFUSED);
            Check.due("FIXED of " + size + " left no type", x.different(), 0);
        }
        for (int size = 0; size < 9; size++) {
            SchemaDesk x = new SchemaDesk();
            int t = x.type(FIXED, size);
            Check.due("FIXED of " + size, t, 0);
            for (int i = 0; i < size; i++) {
                Check.due("FIXED of " + size + " with " + i, x.read(t, t), SHORT);
                x.add(250 + i % 6);
            }
            x.add(1);
            Check.due("FIXED of " + size, x.read(t, t), size);
            Check.due("FIXED of " + size, x.result(-1), size);
        }
    }

    /** "ARRAY's type (that is there)". */
    private static void arrayOfATypeThatIsThere() {
        SchemaDesk x = new SchemaDesk();
        Check.due("of the one that it would be, without others", x.type(ARRAY, 0), REFUSED);
        Check.due("of none", x.type(ARRAY, -1), REFUSED);
        Check.due("none was left", x.type(2, 0), 0);
        Check.due("of the first", x.type(ARRAY, 0), 1);
        Check.due("of the one that it would be", x.type(ARRAY, 2), REFUSED);
        Check.due("of a far one", x.type(ARRAY, 19), REFUSED);
        Check.due("of the lowest", x.type(ARRAY, LOW), REFUSED);
        Check.due("of the highest", x.type(ARRAY, HIGH), REFUSED);
        Check.due("of the latest", x.type(ARRAY, 1), 2);
        Check.reads("ARRAYs of INTs", x, 2, 2, Check.of(2, 2, 14, 0, 0), 1, 1, 7);
        for (int t = 3; t < 19; t++) x.type(2, 0);
        Check.due("the last, of the one before", x.type(ARRAY, 18), 19);
        Check.reads("the last", x, 19, 19, Check.of(2, 14, 0), 1, 7);
    }

    /** "type: a counts for FIXED and ARRAY only." */
    private static void aCountsForFixedAndArrayOnly() {
        int[] kinds = {0, 1, 2, 3, 4, ENUM, UNION, RECORD};
        int[] values = {-1, 0, 9, 20, LOW, HIGH};
        for (int kind : kinds) {
            SchemaDesk x = new SchemaDesk();
            for (int i = 0; i < values.length; i++) Check.due("kind " + kind + " with " + values[i], x.type(kind, values[i]), i);
            Check.due("kind " + kind + ": all the same", x.different(), 1);
        }
        SchemaDesk x = new SchemaDesk();
        for (int i = 0; i < 4; i++) x.type(FIXED, i);
        for (int i = 0; i < 4; i++) x.type(ARRAY, i);
        Check.due("FIXED and ARRAY differ by it", x.different(), 8);
    }

    /** Types made with an a that would be a size and a type, used in every way. */
    private static void aDoesNotShowLater() {
        int[] values = {1, 8, 3, -1, HIGH};
        for (int a : values) {
            SchemaDesk x = new SchemaDesk();
            for (int kind = 0; kind < 10; kind++) x.type(kind, kind == FIXED ? 2 : kind == ARRAY ? 1 : a);
            x.symbol(ENUM, 7);
            x.branch(UNION, 1);
            x.field(RECORD, 0, 1, -1, true, 1);
            long[][] lists = {{0}, {1}, {-1}, {-1}, {1, 9}, {7}, {9, 9}, {1, 1}, {0, 1}, {1}};
            int[][] bytes = {{}, {1}, {1}, {1}, {2, 9}, {0}, {9, 9}, {2, 1, 0}, {0, 1}, {1}};
            long[][] defaults = {{0}, {1}, {5}, {5}, {1, 5}, {7}, {5, 5}, {0}, {0, 1}, {1}};
            int empty = x.type(RECORD, a);
            for (int t = 0; t < 10; t++) {
                Check.writes("kind " + t + " made with " + a, x, t, lists[t], bytes[t]);
                Check.reads("kind " + t + " made with " + a, x, t, t, bytes[t], lists[t]);
                if (t == 9) break;
                int r = x.type(RECORD, a);
                x.field(r, 1, t, -1, true, 5);
                Check.reads("kind " + t + " made with " + a + ", by default", x, empty, r, Check.of(), defaults[t]);
                Check.due("kind " + t + " made with " + a + ": safe", x.safe(empty, r), 1);
            }
        }
    }

    private static void aRefusedTypeLeavesNothing() {
        SchemaDesk x = new SchemaDesk();
        x.type(4, 0);
        x.type(10, 0);
        x.type(FIXED, 9);
        x.type(ARRAY, 1);
        Check.due("one type", x.different(), 1);
        Check.due("type 1 is not there", x.same(1, 1), REFUSED);
        Check.due("the next is 1", x.type(FIXED, 2), 1);
        Check.writes("as it was made", x, 1, Check.row(5, 6), 5, 6);
    }

    // ---- promise 3 ----

    /** "PARTS, at most 5: an ENUM has SYMBOLS"; "how many it has; REFUSED if it ... has 5". */
    private static void fiveSymbols() {
        SchemaDesk x = new SchemaDesk();
        int t = x.type(ENUM, 0);
        Check.writeFails("none", x, t, BAD, 0);
        for (int i = 0; i < 5; i++) Check.due("symbol " + i, x.symbol(t, 10 + i), i + 1);
        Check.due("the sixth", x.symbol(t, 9), REFUSED);
        Check.due("the sixth again", x.symbol(t, 15), REFUSED);
        for (int i = 0; i < 5; i++) Check.writes("symbol " + i, x, t, Check.row(10 + i), 2 * i);
        Check.writeFails("the sixth is not there", x, t, BAD, 9);
        Check.writeFails("nor the other", x, t, BAD, 15);
        Check.due("it can't be the fallback", x.fallback(t, 9), false);
        Check.readFails("its number", x, t, t, BAD, 10);
        Check.reads("the fifth", x, t, t, Check.of(8), 14);
    }

    /** "SYMBOLS (names 0 .. 15 ...)"; "REFUSED if ... the name is none". */
    private static void symbolNames() {
        int[] wrong = {-1, -2, 16, LOW, HIGH};
        SchemaDesk x = new SchemaDesk();
        int t = x.type(ENUM, 0);
        for (int name : wrong) Check.due("name " + name, x.symbol(t, name), REFUSED);
        Check.due("none of them is there", x.symbol(t, 1), 1);
        for (int name = 0; name < 16; name++) {
            int own = x.type(ENUM, 0);
            Check.due("name " + name, x.symbol(own, name), 1);
            Check.writes("name " + name, x, own, Check.row(name), 0);
        }
    }

    /** "names ... different ones"; "REFUSED if ... there already". */
    private static void symbolsAreDifferent() {
        SchemaDesk x = new SchemaDesk();
        int t = x.type(ENUM, 0);
        int other = x.type(ENUM, 0);
        for (int i = 0; i < 4; i++) {
            Check.due("symbol " + i, x.symbol(t, i), i + 1);
            for (int k = 0; k <= i; k++) Check.due("again " + k, x.symbol(t, k), REFUSED);
        }
        Check.due("another one still fits", x.symbol(t, 15), 5);
        Check.due("the same name elsewhere", x.symbol(other, 0), 1);
    }

    /** "One more symbol for an ENUM ...; REFUSED if it is none". */
    private static void symbolsOfAnEnumAlone() {
        SchemaDesk x = withAllKinds();
        int[] none = {-1, 10, 19, 20, LOW, HIGH};
        for (int t : none) Check.due("symbol of " + t, x.symbol(t, 0), REFUSED);
        for (int t = 0; t < 10; t++) {
            if (t != ENUM) Check.due("symbol of kind " + t, x.symbol(t, 0), REFUSED);
        }
        Check.due("the UNION has none", x.branch(UNION, 0), 1);
        Check.due("the RECORD has none", x.field(RECORD, 0, 0, -1, false, 0), 1);
        Check.due("the ENUM has none", x.symbol(ENUM, 0), 1);
    }

    /** Twenty ENUMs with five symbols each, none of them in another's place. */
    private static void partsOfAllTypes() {
        SchemaDesk x = new SchemaDesk();
        for (int t = 0; t < 20; t++) x.type(ENUM, 0);
        for (int i = 0; i < 5; i++) {
            for (int t = 0; t < 20; t++) Check.due("type " + t + ", symbol " + i, x.symbol(t, (t + i) % 16), i + 1);
        }
        for (int t = 0; t < 20; t++) {
            x.wipe(false);
            x.add(t % 5 * 2);
            Check.due("type " + t, x.read(t, t), 1);
            Check.due("type " + t, x.result(0), (t + t % 5) % 16);
        }
    }

    // ---- promise 4 ----

    /** "perhaps a FALLBACK, one of them"; "false if it ... has no such symbol". */
    private static void fallbackIsOneOfThem() {
        SchemaDesk x = new SchemaDesk();
        int t = x.type(ENUM, 0);
        int w = x.type(ENUM, 0);
        x.symbol(w, 9);
        for (int name = 0; name < 16; name++) Check.due("without symbols: " + name, x.fallback(t, name), false);
        for (int name = 0; name < 5; name++) x.symbol(t, name * 3);
        int[] none = {1, 14, 16, -2, LOW, HIGH};
        for (int name : none) Check.due("none: " + name, x.fallback(t, name), false);
        x.add(0);
        Check.due("9 is there itself", x.read(w, t), 1);
        int other = x.type(ENUM, 0);
        x.symbol(other, 2);
        Check.due("another ENUM's symbol", x.fallback(other, 9), false);
        Check.due("no fallback yet", x.read(w, other), MISMATCH);
        Check.due("its own", x.fallback(other, 2), true);
        Check.due("the fallback", x.read(w, other), 1);
        Check.list("the fallback", x, 2);
        for (int name : none) Check.due("none: " + name, x.fallback(other, name), false);
        Check.due("what was refused changed nothing", x.read(w, other), 1);
        Check.list("what was refused changed nothing", x, 2);
        Check.due("a second one", x.symbol(other, 15), 2);
        Check.due("a second one", x.fallback(other, 15), true);
        Check.due("it takes the place", x.read(w, other), 1);
        Check.list("it takes the place", x, 15);
    }

    /** "or none (-1): true". */
    private static void fallbackNone() {
        SchemaDesk x = new SchemaDesk();
        int t = x.type(ENUM, 0);
        int w = x.type(ENUM, 0);
        x.symbol(w, 9);
        x.add(0);
        Check.due("none, of an ENUM without symbols", x.fallback(t, -1), true);
        x.symbol(t, 0);
        Check.due("none, where there is none", x.fallback(t, -1), true);
        Check.due("none", x.read(w, t), MISMATCH);
        Check.due("symbol 0", x.fallback(t, 0), true);
        Check.due("symbol 0", x.read(w, t), 1);
        Check.list("symbol 0", x, 0);
        Check.due("none again", x.fallback(t, -1), true);
        Check.due("none again", x.read(w, t), MISMATCH);
    }

    /** "false if it is no ENUM". */
    private static void fallbackOfAnEnumAlone() {
        SchemaDesk x = withAllKinds();
        x.branch(UNION, 0);
        x.field(RECORD, 0, 0, -1, false, 0);
        int[] none = {-1, 10, 19, 20, LOW, HIGH};
        for (int t : none) Check.due("none, of " + t, x.fallback(t, -1), false);
        for (int t : none) Check.due("0, of " + t, x.fallback(t, 0), false);
        for (int t = 0; t < 10; t++) {
            if (t == ENUM) continue;
            Check.due("none, of kind " + t, x.fallback(t, -1), false);
            Check.due("0, of kind " + t, x.fallback(t, 0), false);
        }
    }

    // ---- promise 5 ----

    /** "PARTS, at most 5: ... a UNION has BRANCHES"; "how many it has; REFUSED if it ... has 5". */
    private static void fiveBranches() {
        SchemaDesk x = new SchemaDesk();
        int t = x.type(UNION, 0);
        int number = x.type(2, 0);
        int text = x.type(4, 0);
        Check.writeFails("none", x, t, BAD, 0);
        for (int i = 0; i < 4; i++) Check.due("branch " + i + ", a type may come again", x.branch(t, number), i + 1);
        Check.due("branch 4", x.branch(t, text), 5);
        Check.due("the sixth", x.branch(t, number), REFUSED);
        Check.due("the sixth again", x.branch(t, text), REFUSED);
        Check.writes("branch 0", x, t, Check.row(0, 7), 0, 14);
        Check.writes("branch 3", x, t, Check.row(3, 7), 6, 14);
        Check.writes("branch 4", x, t, Check.row(4, 1, 7), 8, 2, 7);
        Check.writeFails("the sixth is not there", x, t, BAD, 5, 7);
        Check.readFails("nor to read", x, t, t, BAD, 10, 14);
    }

    /** "BRANCHES (types that are no UNIONs)"; "REFUSED if ... u is no type or a UNION". */
    private static void branchesAreNoUnions() {
        SchemaDesk x = withAllKinds();
        int t = x.type(UNION, 0);
        int[] wrong = {-1, 11, 19, 20, LOW, HIGH, UNION, t};
        for (int u : wrong) Check.due("branch " + u, x.branch(t, u), REFUSED);
        Check.due("a later type", x.type(0, 0), 11);
        int count = 0;
        for (int u = 0; u < 10 && count < 5; u++) {
            if (u == UNION) continue;
            count++;
            Check.due("of kind " + u, x.branch(t, u), count);
        }
        int rest = x.type(UNION, 0);
        int[] others = {ENUM, FIXED, ARRAY, RECORD, 11};
        for (int i = 0; i < 5; i++) Check.due("of kind " + others[i], x.branch(rest, others[i]), i + 1);
    }

    /** "One more branch for a UNION ...; REFUSED if it is none". */
    private static void branchesOfAUnionAlone() {
        SchemaDesk x = withAllKinds();
        int[] none = {-1, 10, 19, 20, LOW, HIGH};
        for (int t : none) Check.due("branch of " + t, x.branch(t, 0), REFUSED);
        for (int t = 0; t < 10; t++) {
            if (t != UNION) Check.due("branch of kind " + t, x.branch(t, 0), REFUSED);
        }
        Check.due("the ENUM has none", x.symbol(ENUM, 0), 1);
        Check.due("the RECORD has none", x.field(RECORD, 0, 0, -1, false, 0), 1);
        Check.due("the UNION has none", x.branch(UNION, 0), 1);
    }

    // ---- promise 6 ----

    /** "PARTS, at most 5: ... a RECORD has FIELDS"; "how many it has; REFUSED if it ... has 5". */
    private static void fiveFields() {
        SchemaDesk x = new SchemaDesk();
        int t = x.type(RECORD, 0);
        int number = x.type(2, 0);
        Check.writes("none", x, t, Check.row());
        for (int i = 0; i < 5; i++) Check.due("field " + i, x.field(t, 10 + i, number, -1, false, 0), i + 1);
        Check.due("the sixth", x.field(t, 9, number, -1, true, 0), REFUSED);
        Check.due("the sixth again", x.field(t, 0, t, 1, false, 0), REFUSED);
        Check.writes("five", x, t, Check.row(1, 2, 3, 4, 5), 2, 4, 6, 8, 10);
        Check.writeFails("four", x, t, SHORT, 1, 2, 3, 4);
        Check.writeFails("six", x, t, LEFT, 1, 2, 3, 4, 5, 6);
        Check.reads("five", x, t, t, Check.of(2, 4, 6, 8, 10), 1, 2, 3, 4, 5);
    }

    /** "FIELDS: a name"; "REFUSED if ... a name ... is none". */
    private static void fieldNames() {
        SchemaDesk x = new SchemaDesk();
        int t = x.type(RECORD, 0);
        int number = x.type(2, 0);
        int[] wrong = {-1, -2, 16, LOW, HIGH};
        for (int name : wrong) Check.due("name " + name, x.field(t, name, number, -1, true, 0), REFUSED);
        Check.writes("none of them is there", x, t, Check.row());
        int before = t;
        for (int name = 0; name < 16; name++) {
            int own = x.type(RECORD, 0);
            Check.due("name " + name, x.field(own, name, number, -1, false, 0), 1);
            Check.due("name " + name + " is its own", x.safe(own, own), 1);
            Check.due("name " + name + " is no other", x.safe(before, own), 0);
            before = own;
        }
    }

    /** "a name (different ones)"; "REFUSED if ... the name there already". */
    private static void fieldNamesAreDifferent() {
        SchemaDesk x = new SchemaDesk();
        int t = x.type(RECORD, 0);
        int number = x.type(2, 0);
        int text = x.type(4, 0);
        int other = x.type(RECORD, 0);
        for (int i = 0; i < 4; i++) {
            Check.due("field " + i, x.field(t, i, number, 9, false, 0), i + 1);
            for (int k = 0; k <= i; k++) Check.due("again " + k, x.field(t, k, text, -1, true, 5), REFUSED);
        }
        Check.writes("none of them is there", x, t, Check.row(1, 2, 3, 4), 2, 4, 6, 8);
        Check.due("a name that is an alias", x.field(t, 9, number, -1, false, 0), 5);
        Check.due("the same name elsewhere", x.field(other, 0, text, -1, false, 0), 1);
    }

    /** "perhaps an ALIAS (a name)"; "alias -1 for none"; "REFUSED if ... (alias) is none". */
    private static void fieldAliases() {
        SchemaDesk x = new SchemaDesk();
        int t = x.type(RECORD, 0);
        int number = x.type(2, 0);
        int[] wrong = {-2, 16, LOW, HIGH};
        for (int alias : wrong) Check.due("alias " + alias, x.field(t, 0, number, alias, true, 0), REFUSED);
        Check.writes("none of them is there", x, t, Check.row());
        Check.due("none", x.field(t, 0, number, -1, false, 0), 1);
        Check.due("alias 0, a name of another", x.field(t, 1, number, 0, false, 0), 2);
        Check.due("alias 15", x.field(t, 2, number, 15, false, 0), 3);
        Check.due("alias 15 again", x.field(t, 3, number, 15, false, 0), 4);
        Check.due("its own name", x.field(t, 4, number, 4, false, 0), 5);
        int w = x.type(RECORD, 0);
        x.field(w, 15, number, -1, false, 0);
        int r = x.type(RECORD, 0);
        x.field(r, 1, number, 15, false, 0);
        int plain = x.type(RECORD, 0);
        x.field(plain, 1, number, -1, false, 0);
        Check.reads("by the alias", x, w, r, Check.of(14), 7);
        Check.readFails("without one", x, w, plain, MISMATCH, 14);
    }

    /** "REFUSED if ... u is no type". */
    private static void fieldTypes() {
        SchemaDesk x = withAllKinds();
        int[] wrong = {-1, 10, 19, 20, LOW, HIGH};
        for (int u : wrong) Check.due("type " + u, x.field(RECORD, 0, u, -1, true, 0), REFUSED);
        Check.writes("none of them is there", x, RECORD, Check.row());
        int other = x.type(RECORD, 0);
        for (int u = 0; u < 5; u++) Check.due("kind " + u, x.field(RECORD, u, u, -1, false, 0), u + 1);
        for (int u = 5; u < 10; u++) Check.due("kind " + u, x.field(other, u, u, -1, false, 0), u - 4);
        int own = x.type(RECORD, 0);
        Check.due("itself", x.field(own, 0, own, -1, false, 0), 1);
    }

    /** "One more field for a RECORD ...; REFUSED if it is none". */
    private static void fieldsOfARecordAlone() {
        SchemaDesk x = withAllKinds();
        int[] none = {-1, 10, 19, 20, LOW, HIGH};
        for (int t : none) Check.due("field of " + t, x.field(t, 0, 0, -1, false, 0), REFUSED);
        for (int t = 0; t < 10; t++) {
            if (t != RECORD) Check.due("field of kind " + t, x.field(t, 0, 0, -1, false, 0), REFUSED);
        }
        Check.due("the ENUM has none", x.symbol(ENUM, 0), 1);
        Check.due("the UNION has none", x.branch(UNION, 0), 1);
        Check.due("the RECORD has none", x.field(RECORD, 0, 0, -1, false, 0), 1);
    }

    /** "perhaps a DEFAULT (an int)"; "v is the default if has". */
    private static void defaultsAreInts() {
        int[] values = {LOW, -1, 0, 1, HIGH};
        SchemaDesk x = new SchemaDesk();
        int w = x.type(RECORD, 0);
        int number = x.type(2, 0);
        for (int v : values) {
            int with = x.type(RECORD, 0);
            x.field(with, 0, number, -1, true, v);
            Check.reads("default " + v, x, w, with, Check.of(), v);
            int without = x.type(RECORD, 0);
            x.field(without, 0, number, -1, false, v);
            Check.readFails("no default " + v, x, w, without, MISMATCH);
        }
    }
}
