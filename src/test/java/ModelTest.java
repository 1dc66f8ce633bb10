import java.util.ArrayList;
import java.util.List;
import java.util.Random;

/**
 * All promises: long runs of calls, the same ones each time, in which every answer is compared with
 * the Model's. At its end it looks whether each trouble, and enough of what went well, came up.
 */
public final class ModelTest {
    private static final int RUNS = 8000;
    /** The document promises nothing of an object after that many. */
    private static final int CALLS = 512;
    private static final int LOOKED_AT_WHOLE = 12;
    private static final int[] EDGES = {-2, -1, 0, 1, 15, 16, 19, 20, 255, 256, Integer.MIN_VALUE, Integer.MAX_VALUE};

    private final Random random;
    private final Model model = new Model();
    private final SchemaDesk desk = new SchemaDesk();
    private final String run;
    private final int names;
    /** Types of few bytes alone, and many items, so that MUCH and FULL come up. */
    private final boolean thin;
    /** Parts are of earlier types alone: without rings, fewer values are too deep. */
    private final boolean layered;
    private int calls = 0;
    private int filled = 0;

    private static final int[] readAnswers = new int[9];
    private static final int[] writeAnswers = new int[9];
    private static final int[] safeAnswers = new int[2];
    private static final int[] sameAnswers = new int[2];
    private static int resolved = 0;

    private ModelTest(int seed) {
        random = new Random(seed);
        run = "run " + seed;
        names = 2 + random.nextInt(5);
        thin = seed % 4 == 0;
        layered = seed % 3 != 0;
    }

    public static void main(String[] args) {
        for (int seed = 0; seed < RUNS; seed++) new ModelTest(seed).go();
        for (int code = 0; code < 9; code++) {
            Check.due("enough reads that answered " + -code, readAnswers[code] > 50 || code == 8, true);
            Check.due("enough writes that answered " + -code, writeAnswers[code] > 50 || code == 6, true);
        }
        Check.due("enough values resolved to other types", resolved > 2000, true);
        for (int i = 0; i < 2; i++) {
            Check.due("enough safe that answered " + i, safeAnswers[i] > 2000, true);
            Check.due("enough same that answered " + i, sameAnswers[i] > 2000, true);
        }
        Check.end();
    }

    private void go() {
        boolean twins = below(3) != 0;
        int first = 2 + below(twins ? 9 : 19) / (thin ? 3 : 1);
        if (thin) thinTypes();
        for (int i = 0; i < first; i++) newType();
        int parts = below(thin ? 12 * first : 3 * first);
        for (int i = 0; i < parts; i++) newPart();
        if (twins) makeTwins();
        while (!isOver()) step();
    }

    private boolean isOver() {
        return calls == CALLS;
    }

    private void thinTypes() {
        typeCall(0, 0);
        typeCall(6, below(2) * below(3));
        typeCall(9, 0);
        for (int i = 0; i < 3; i++) typeCall(7, i);
        typeCall(9, 0);
        typeCall(9, 0);
        int items = 3 + below(2);
        for (int i = 0; i < 4; i++) fieldCall(6, i, items, 0, true, i);
        for (int i = 0; i < 3; i++) fieldCall(7, i, 6, 0, true, i);
    }

    /** Each type again, now and then a little changed, made of the first ones or of one another. */
    private void makeTwins() {
        int count = model.types.size();
        for (int i = 0; i < count; i++) {
            Model.Type t = model.types.get(i);
            int kind = t.kind == 2 && below(2) == 0 ? 3 : t.kind;
            typeCall(kind, t.kind == 7 && t.a + count < model.types.size() ? twinOf(t.a, count) : t.a);
        }
        for (int i = 0; i < count && model.types.size() > i + count; i++) {
            Model.Type t = model.types.get(i);
            for (int name : t.symbols) if (below(8) != 0) symbolCall(i + count, name);
            for (int u : t.branches) if (below(12) != 0) branchCall(i + count, twinOf(u, count));
            for (Model.Field f : t.fields) twinField(i + count, f, count);
            if (t.fallback != -1) fallbackCall(i + count, t.fallback);
        }
    }

    private int twinOf(int t, int count) {
        return below(2) == 0 ? t : t + count;
    }

    private void twinField(int t, Model.Field f, int count) {
        boolean renamed = below(8) == 0;
        int name = renamed ? name() : f.name;
        int alias = renamed ? f.name : below(12) == 0 ? name() : f.alias;
        boolean has = below(8) == 0 || f.has;
        if (below(12) != 0) fieldCall(t, name, twinOf(f.type, count), alias, has, f.v);
    }

    private void due(String what, long got, long want) {
        calls++;
        Check.due(run + ", call " + calls + ": " + what, got, want);
    }

    private int below(int bound) {
        return random.nextInt(bound);
    }

    private boolean rarely() {
        return below(25) == 0;
    }

    private int anyType() {
        if (rarely() || model.types.isEmpty()) return EDGES[below(EDGES.length)];
        return below(model.types.size());
    }

    /** A type of that kind, if a few tries find one. */
    private int typeOf(int kind) {
        int t = anyType();
        for (int i = 0; i < 20 && model.isType(t) && model.types.get(t).kind != kind; i++) t = anyType();
        return t;
    }

    private int typeWithin(int t) {
        if (thin && below(2) == 0) return 3 + below(3);
        return layered && t > 0 && t < 20 ? below(t) : anyType();
    }

    private int name() {
        return rarely() ? EDGES[below(EDGES.length)] : below(names);
    }

    private int kind() {
        if (rarely()) return EDGES[below(EDGES.length)];
        int choice = below(12);
        if (choice < 4) return 9;
        if (choice < 6) return 8;
        if (choice < 8) return 7;
        return thin ? 6 * below(2) : below(8);
    }

    private void newType() {
        int kind = kind();
        int a = below(10);
        if (kind == 7) a = anyType();
        else if (kind == 6 && !rarely()) a = thin && below(4) != 0 ? 0 : below(4) == 0 ? below(9) : below(3);
        typeCall(kind, a);
    }

    private void newPart() {
        switch (below(6)) {
            case 0:
                symbolCall(typeOf(5), name());
                break;
            case 1:
                int union = typeOf(8);
                branchCall(union, typeWithin(union));
                break;
            case 2:
                fallbackCall(typeOf(5), below(3) == 0 ? -1 : name());
                break;
            default:
                int v = below(2) == 0 ? below(3) : random.nextInt();
                int record = typeOf(9);
                fieldCall(record, name(), typeWithin(record), below(2) == 0 ? -1 : name(), below(4) != 0, v);
                break;
        }
    }

    private void typeCall(int kind, int a) {
        if (isOver()) return;
        due("type(" + kind + ", " + a + ")", desk.type(kind, a), model.type(kind, a));
    }

    private void symbolCall(int t, int name) {
        if (isOver()) return;
        due("symbol(" + t + ", " + name + ")", desk.symbol(t, name), model.symbol(t, name));
    }

    private void branchCall(int t, int u) {
        if (isOver()) return;
        due("branch(" + t + ", " + u + ")", desk.branch(t, u), model.branch(t, u));
    }

    private void fallbackCall(int t, int name) {
        if (isOver()) return;
        due("fallback(" + t + ", " + name + ")", desk.fallback(t, name) ? 1 : 0, model.fallback(t, name) ? 1 : 0);
    }

    private void fieldCall(int t, int name, int u, int alias, boolean has, int v) {
        if (isOver()) return;
        String what = "field(" + t + ", " + name + ", " + u + ", " + alias + ", " + has + ", " + v + ")";
        due(what, desk.field(t, name, u, alias, has, v), model.field(t, name, u, alias, has, v));
    }

    private void step() {
        int choice = below(14);
        if (choice == 0) {
            newType();
        } else if (choice == 1) {
            newPart();
        } else if (choice < 4) {
            pairs();
        } else if (choice < 6) {
            someBytes();
        } else if (choice < 8) {
            someNumbers();
        } else if (choice < 11) {
            valueInBytes();
        } else {
            value();
        }
    }

    private void pairs() {
        int t = anyType();
        int u = anyType();
        int safe = model.safe(t, u);
        int same = model.same(t, u);
        if (safe >= 0 && t != u) safeAnswers[safe]++;
        if (same >= 0 && t != u) sameAnswers[same]++;
        if (!isOver()) due("safe(" + t + ", " + u + ")", desk.safe(t, u), safe);
        if (!isOver()) due("same(" + t + ", " + u + ")", desk.same(t, u), same);
        if (!isOver() && below(4) == 0) due("different()", desk.different(), model.different());
    }

    private int someByte() {
        if (rarely()) return EDGES[below(EDGES.length)];
        return below(3) == 0 ? below(256) : below(6);
    }

    private void someBytes() {
        if (below(3) != 0) wipe(false);
        int count = below(20) == 0 ? 100 : below(12);
        for (int i = 0; i < count; i++) {
            int b = someByte();
            addCall(b);
        }
        for (int i = 0; i < 4; i++) read(anyType(), anyType());
    }

    private void someNumbers() {
        if (below(3) != 0) wipe(true);
        int count = below(20) == 0 ? 100 : below(12);
        for (int i = 0; i < count; i++) number(below(8) == 0 ? random.nextLong() : someByte());
        for (int i = 0; i < 4; i++) write(anyType());
    }

    /** The list of a value that is as it should be, or nearly: written, and read back as several types. */
    private void value() {
        int t = anyType();
        if (!model.isType(t)) return;
        List<Long> list = new ArrayList<>();
        filled = 0;
        fill(model.types.get(t), 0, below(3) == 0 ? 6 : 2, list);
        if (below(8) == 0 && !list.isEmpty()) list.remove(list.size() - 1);
        if (below(8) == 0 && !list.isEmpty()) list.set(below(list.size()), random.nextLong());
        if (below(8) == 0) list.add(1L);
        wipe(true);
        for (long v : list) number(v);
        if (write(t) < 0) return;
        read(t, t);
        for (int i = 0; i < 6; i++) read(t, anyType());
    }

    private void fill(Model.Type t, int depth, int width, List<Long> list) {
        filled++;
        if (filled > 1000 || list.size() > 110 || depth > 24) return;
        switch (t.kind) {
            case 0:
                list.add(0L);
                break;
            case 1:
                list.add((long) below(2));
                break;
            case 2:
                list.add((long) random.nextInt() >> below(32));
                break;
            case 3:
                list.add(random.nextLong() >> below(64));
                break;
            case 4:
                int length = below(below(10) == 0 ? 21 : 3);
                list.add((long) length);
                for (int i = 0; i < length; i++) list.add((long) below(256));
                break;
            case 5:
                list.add(t.symbols.isEmpty() ? 0L : t.symbols.get(below(t.symbols.size())));
                break;
            case 6:
                for (int i = 0; i < t.a; i++) list.add((long) below(256));
                break;
            case 7:
                int count = thin && below(2) == 0 ? 30 + below(11) : below(10) == 0 ? below(41) : below(width + 1);
                list.add((long) count);
                for (int i = 0; i < count; i++) fill(model.types.get(t.a), depth + 1, width - 1 > 0 ? width - 1 : 0, list);
                break;
            case 8:
                int branch = t.branches.isEmpty() ? 0 : below(t.branches.size());
                list.add((long) branch);
                if (!t.branches.isEmpty()) fill(model.types.get(t.branches.get(branch)), depth + 1, width, list);
                break;
            default:
                for (Model.Field f : t.fields) fill(model.types.get(f.type), depth + 1, width, list);
                break;
        }
    }

    /** Bytes of a value that are as they should be, or nearly, in all the ways they may be written. */
    private void valueInBytes() {
        int t = anyType();
        if (!model.isType(t)) return;
        List<Integer> bytes = new ArrayList<>();
        filled = 0;
        fillBytes(model.types.get(t), 0, bytes);
        if (below(8) == 0 && !bytes.isEmpty()) bytes.set(below(bytes.size()), below(256));
        wipe(false);
        for (int b : bytes) addCall(b);
        read(t, t);
        for (int i = 0; i < 6; i++) read(t, anyType());
    }

    private void fillLong(long v, List<Integer> bytes) {
        long u = v < 0 ? -2 * v - 1 : 2 * v;
        int more = below(12) == 0 ? below(10) : 0;
        int count = 1;
        while (count < 10 && u >>> 7 * count != 0) count++;
        if (count + more > 10) more = 0;
        for (int i = 0; i < count + more; i++) {
            int low = i < 10 ? (int) (u >>> 7 * i) & 127 : 0;
            bytes.add(i == count + more - 1 ? low : low + 128);
        }
    }

    private void fillBytes(Model.Type t, int depth, List<Integer> bytes) {
        filled++;
        if (filled > 1000 || bytes.size() > 110 || depth > 24) return;
        switch (t.kind) {
            case 0:
                break;
            case 1:
                bytes.add(below(2));
                break;
            case 2:
                fillLong(random.nextInt() >> below(32), bytes);
                break;
            case 3:
                fillLong(random.nextLong() >> below(64), bytes);
                break;
            case 4:
                int length = below(below(10) == 0 ? 21 : 3);
                fillLong(length, bytes);
                for (int i = 0; i < length; i++) bytes.add(below(256));
                break;
            case 5:
                fillLong(below(t.symbols.size() + 1 - (rarely() || t.symbols.isEmpty() ? 0 : 1)), bytes);
                break;
            case 6:
                for (int i = 0; i < t.a; i++) bytes.add(below(256));
                break;
            case 7:
                fillBlocks(model.types.get(t.a), depth, bytes);
                break;
            case 8:
                int branch = t.branches.isEmpty() ? 0 : below(t.branches.size());
                fillLong(branch, bytes);
                if (!t.branches.isEmpty()) fillBytes(model.types.get(t.branches.get(branch)), depth + 1, bytes);
                break;
            default:
                for (Model.Field f : t.fields) fillBytes(model.types.get(f.type), depth + 1, bytes);
                break;
        }
    }

    private void fillBlocks(Model.Type u, int depth, List<Integer> bytes) {
        int blocks = thin ? 1 + below(2) : below(3);
        for (int i = 0; i < blocks; i++) {
            int count = thin ? (10 + below(31)) / blocks : 1 + below(3);
            boolean sized = below(3) == 0;
            fillLong(sized ? -count : count, bytes);
            if (sized) fillLong(random.nextLong() >> below(64), bytes);
            for (int k = 0; k < count; k++) fillBytes(u, depth + 1, bytes);
        }
        fillLong(0, bytes);
    }

    private void addCall(int b) {
        if (isOver()) return;
        due("add(" + b + ")", desk.add(b), model.add(b));
    }

    private void wipe(boolean numbers) {
        if (isOver()) return;
        due("wipe(" + numbers + ")", desk.wipe(numbers), model.wipe(numbers));
    }

    private void number(long v) {
        if (isOver()) return;
        due("number(" + v + ")", desk.number(v), model.number(v));
    }

    private int write(int t) {
        if (isOver()) return SchemaDesk.REFUSED;
        int want = model.write(t);
        writeAnswers[want < 0 ? -want : 0]++;
        due("write(" + t + ")", desk.write(t), want);
        int count = model.bytes.size();
        if (count <= LOOKED_AT_WHOLE) {
            for (int k = 0; k <= count; k++) lookAtByte(k);
        } else {
            for (int i = 0; i < LOOKED_AT_WHOLE; i++) lookAtByte(below(count + 1));
        }
        return want;
    }

    private void lookAtByte(int k) {
        if (!isOver()) due("at(" + k + ") after write", desk.at(k), model.at(k));
    }

    private void read(int w, int r) {
        if (isOver()) return;
        int want = model.read(w, r);
        if (want == Model.TOO_LONG) return;
        readAnswers[want < 0 ? -want : 0]++;
        if (want >= 0 && w != r && model.result(-1) > 2) resolved++;
        due("read(" + w + ", " + r + ")", desk.read(w, r), want);
        lookAtResult(-1);
        int count = model.result.size();
        if (count <= LOOKED_AT_WHOLE) {
            for (int k = 0; k <= count; k++) lookAtResult(k);
        } else {
            for (int i = 0; i < LOOKED_AT_WHOLE; i++) lookAtResult(below(count + 1));
        }
    }

    private void lookAtResult(int k) {
        if (!isOver()) due("result(" + k + ") after read", desk.result(k), model.result(k));
    }
}
