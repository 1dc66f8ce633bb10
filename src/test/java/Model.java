import java.util.ArrayList;
import java.util.List;

/** The document in plain recursive Java, to be compared with SchemaDesk; slow and short. */
final class Model {
    /** What read answers, changing nothing, where plain recursion would take too long. */
    static final int TOO_LONG = -100;
    private static final int TYPES = 20;
    private static final int MOST_WORK = 20000;

    static final class Field {
        int name, type, alias, v;
        boolean has;
    }

    static final class Type {
        int kind, a, fallback = -1;
        final List<Integer> symbols = new ArrayList<>();
        final List<Integer> branches = new ArrayList<>();
        final List<Field> fields = new ArrayList<>();
    }

    /** A value that was read: its number, its bytes or those within it. */
    private static final class Value {
        Type type;
        long number;
        final List<Integer> bytes = new ArrayList<>();
        final List<Value> within = new ArrayList<>();
    }

    private static final class Trouble extends RuntimeException {
        private static final long serialVersionUID = 1;
        final int code;

        Trouble(int code) {
            this.code = code;
        }
    }

    final List<Type> types = new ArrayList<>();
    List<Integer> bytes = new ArrayList<>();
    final List<Long> numbers = new ArrayList<>();
    List<Long> result = new ArrayList<>();
    private int place, begun, work;
    private List<Integer> written;
    private List<Long> list;

    boolean isType(int t) {
        return t >= 0 && t < types.size();
    }

    private boolean isKind(int t, int kind) {
        return isType(t) && types.get(t).kind == kind;
    }

    int type(int kind, int a) {
        if (types.size() == TYPES || kind < 0 || kind > 9) return SchemaDesk.REFUSED;
        if (kind == 6 && (a < 0 || a > 8) || kind == 7 && !isType(a)) return SchemaDesk.REFUSED;
        Type t = new Type();
        t.kind = kind;
        t.a = a;
        types.add(t);
        return types.size() - 1;
    }

    int symbol(int t, int name) {
        if (!isKind(t, 5) || name < 0 || name > 15) return SchemaDesk.REFUSED;
        List<Integer> symbols = types.get(t).symbols;
        if (symbols.size() == 5 || symbols.contains(name)) return SchemaDesk.REFUSED;
        symbols.add(name);
        return symbols.size();
    }

    boolean fallback(int t, int name) {
        if (!isKind(t, 5) || name != -1 && !types.get(t).symbols.contains(name)) return false;
        types.get(t).fallback = name;
        return true;
    }

    int branch(int t, int u) {
        if (!isKind(t, 8) || !isType(u) || isKind(u, 8)) return SchemaDesk.REFUSED;
        List<Integer> branches = types.get(t).branches;
        if (branches.size() == 5) return SchemaDesk.REFUSED;
        branches.add(u);
        return branches.size();
    }

    int field(int t, int name, int u, int alias, boolean has, int v) {
        if (!isKind(t, 9) || !isType(u) || name < 0 || name > 15 || alias < -1 || alias > 15) return SchemaDesk.REFUSED;
        List<Field> fields = types.get(t).fields;
        if (fields.size() == 5 || find(types.get(t), name) >= 0) return SchemaDesk.REFUSED;
        Field f = new Field();
        f.name = name;
        f.type = u;
        f.alias = alias;
        f.has = has;
        f.v = v;
        fields.add(f);
        return fields.size();
    }

    private static int find(Type record, int name) {
        for (int i = 0; i < record.fields.size(); i++) if (record.fields.get(i).name == name) return i;
        return -1;
    }

    private static int source(Type w, Field f) {
        int byName = find(w, f.name);
        return byName >= 0 || f.alias == -1 ? byName : find(w, f.alias);
    }

    int add(int b) {
        if (b < 0 || b > 255 || bytes.size() == 100) return SchemaDesk.REFUSED;
        bytes.add(b);
        return bytes.size();
    }

    int at(int k) {
        return k >= 0 && k < bytes.size() ? bytes.get(k) : SchemaDesk.REFUSED;
    }

    int wipe(boolean which) {
        int were = which ? numbers.size() : bytes.size();
        if (which) numbers.clear();
        else bytes.clear();
        return were;
    }

    int number(long v) {
        if (numbers.size() == 100) return SchemaDesk.REFUSED;
        numbers.add(v);
        return numbers.size();
    }

    long result(int k) {
        if (k == -1) return result.size();
        return k >= 0 && k < result.size() ? result.get(k) : SchemaDesk.REFUSED;
    }

    // ---- read ----

    int read(int w, int r) {
        if (!isType(w) || !isType(r)) return SchemaDesk.REFUSED;
        list = new ArrayList<>();
        place = 0;
        begun = 0;
        work = 0;
        try {
            Value value = readValue(types.get(w), 0);
            resolve(value, types.get(r), 0);
        } catch (Trouble e) {
            if (e.code != TOO_LONG) result = new ArrayList<>();
            return e.code;
        }
        result = list;
        return place;
    }

    private void begin(Type t, int depth) {
        if (begun == 400) throw new Trouble(SchemaDesk.MUCH);
        begun++;
        if (t.kind == 9 && depth == 10) throw new Trouble(SchemaDesk.DEEP);
    }

    private int readByte() {
        if (place == bytes.size()) throw new Trouble(SchemaDesk.SHORT);
        return bytes.get(place++);
    }

    private long readLong() {
        java.math.BigInteger u = java.math.BigInteger.ZERO;
        for (int i = 0;; i++) {
            int b = readByte();
            if (i == 9 && b > 1) throw new Trouble(SchemaDesk.BAD);
            u = u.add(java.math.BigInteger.valueOf(b % 128).shiftLeft(7 * i));
            if (b < 128) break;
        }
        java.math.BigInteger half = u.shiftRight(1);
        return (u.testBit(0) ? half.negate().subtract(java.math.BigInteger.ONE) : half).longValueExact();
    }

    private long readWithin(long low, long high) {
        long v = readLong();
        if (v < low || v > high) throw new Trouble(SchemaDesk.BAD);
        return v;
    }

    private Value readValue(Type t, int depth) {
        begin(t, depth);
        Value value = new Value();
        value.type = t;
        switch (t.kind) {
            case 1:
                value.number = readByte();
                if (value.number > 1) throw new Trouble(SchemaDesk.BAD);
                break;
            case 2:
                value.number = readWithin(Integer.MIN_VALUE, Integer.MAX_VALUE);
                break;
            case 3:
                value.number = readLong();
                break;
            case 4:
                value.number = readWithin(0, 20);
                for (int i = 0; i < value.number; i++) value.bytes.add(readByte());
                break;
            case 5:
                value.number = t.symbols.get((int) readWithin(0, t.symbols.size() - 1));
                break;
            case 6:
                for (int i = 0; i < t.a; i++) value.bytes.add(readByte());
                break;
            case 7:
                readArray(value, t, depth);
                break;
            case 8:
                value.within.add(readValue(types.get(t.branches.get((int) readWithin(0, t.branches.size() - 1))), depth));
                break;
            case 9:
                for (Field f : t.fields) value.within.add(readValue(types.get(f.type), depth + 1));
                break;
            default:
                break;
        }
        return value;
    }

    private void readArray(Value value, Type t, int depth) {
        while (true) {
            long n = readLong();
            if (n == 0) return;
            if (n > 40 - value.within.size() || n < value.within.size() - 40) throw new Trouble(SchemaDesk.MUCH);
            if (n < 0) readLong();
            for (int i = 0; i < Math.abs(n); i++) value.within.add(readValue(types.get(t.a), depth));
        }
    }

    // ---- resolving ----

    private void put(long v) {
        if (list.size() == 150) throw new Trouble(SchemaDesk.FULL);
        list.add(v);
    }

    private void countWork() {
        work++;
        if (work > MOST_WORK) throw new Trouble(TOO_LONG);
    }

    private static boolean suits(Type w, Type r) {
        return w.kind == r.kind && (w.kind != 6 || w.a == r.a) || w.kind == 2 && r.kind == 3;
    }

    private int firstSuited(Type w, Type union) {
        for (int i = 0; i < union.branches.size(); i++) if (suits(w, types.get(union.branches.get(i)))) return i;
        return -1;
    }

    private void resolve(Value value, Type r, int depth) {
        countWork();
        Type w = value.type;
        if (w.kind == 8) {
            resolve(value.within.get(0), r, depth);
            return;
        }
        if (r.kind == 8) {
            int branch = firstSuited(w, r);
            if (branch < 0) throw new Trouble(SchemaDesk.MISMATCH);
            put(branch);
            resolve(value, types.get(r.branches.get(branch)), depth);
            return;
        }
        if (!suits(w, r)) throw new Trouble(SchemaDesk.MISMATCH);
        if (r.kind == 9) {
            resolveRecord(value, r, depth);
        } else if (r.kind == 7) {
            put(value.within.size());
            for (Value v : value.within) resolve(v, types.get(r.a), depth);
        } else if (r.kind == 5) {
            int name = r.symbols.contains((int) value.number) ? (int) value.number : r.fallback;
            if (name == -1) throw new Trouble(SchemaDesk.MISMATCH);
            put(name);
        } else {
            if (r.kind != 6) put(value.number);
            for (int b : value.bytes) put(b);
        }
    }

    private void resolveRecord(Value value, Type r, int depth) {
        if (depth == 10) throw new Trouble(SchemaDesk.DEEP);
        for (Field f : r.fields) {
            int source = source(value.type, f);
            if (source >= 0) resolve(value.within.get(source), types.get(f.type), depth + 1);
            else if (f.has) putDefault(types.get(f.type), f.v, depth + 1);
            else throw new Trouble(SchemaDesk.MISMATCH);
        }
    }

    private void putDefault(Type u, int v, int depth) {
        countWork();
        if (u.kind == 0 || u.kind == 7) {
            put(0);
        } else if (u.kind == 1) {
            put(Math.floorMod(v, 2));
        } else if (u.kind == 2 || u.kind == 3) {
            put(v);
        } else if (u.kind == 4) {
            put(1);
            put(Math.floorMod(v, 256));
        } else if (u.kind == 5) {
            if (u.symbols.isEmpty()) throw new Trouble(SchemaDesk.MISMATCH);
            put(u.symbols.get(Math.floorMod(v, u.symbols.size())));
        } else if (u.kind == 6) {
            for (int i = 0; i < u.a; i++) put(Math.floorMod(v, 256));
        } else if (u.kind == 8) {
            if (u.branches.isEmpty()) throw new Trouble(SchemaDesk.MISMATCH);
            put(0);
            putDefault(types.get(u.branches.get(0)), v, depth);
        } else {
            if (depth == 10) throw new Trouble(SchemaDesk.DEEP);
            for (Field f : u.fields) {
                if (!f.has) throw new Trouble(SchemaDesk.MISMATCH);
                putDefault(types.get(f.type), f.v, depth + 1);
            }
        }
    }

    // ---- write ----

    int write(int t) {
        if (!isType(t)) return SchemaDesk.REFUSED;
        written = new ArrayList<>();
        place = 0;
        begun = 0;
        try {
            writeValue(types.get(t), 0);
        } catch (Trouble e) {
            return e.code;
        }
        if (place < numbers.size()) return SchemaDesk.LEFT;
        bytes = written;
        return bytes.size();
    }

    private long take(long low, long high) {
        if (place == numbers.size()) throw new Trouble(SchemaDesk.SHORT);
        long v = numbers.get(place++);
        if (v < low || v > high) throw new Trouble(SchemaDesk.BAD);
        return v;
    }

    private void writeByte(long b) {
        if (written.size() == 100) throw new Trouble(SchemaDesk.FULL);
        written.add((int) b);
    }

    private void writeLong(long v) {
        java.math.BigInteger u = java.math.BigInteger.valueOf(v).shiftLeft(1);
        if (v < 0) u = u.negate().subtract(java.math.BigInteger.ONE);
        while (u.bitLength() > 7) {
            writeByte(u.intValue() & 127 | 128);
            u = u.shiftRight(7);
        }
        writeByte(u.intValue());
    }

    private void writeValue(Type t, int depth) {
        begin(t, depth);
        switch (t.kind) {
            case 0:
                take(0, 0);
                break;
            case 1:
                writeByte(take(0, 1));
                break;
            case 2:
                writeLong(take(Integer.MIN_VALUE, Integer.MAX_VALUE));
                break;
            case 3:
                writeLong(take(Long.MIN_VALUE, Long.MAX_VALUE));
                break;
            case 4:
                long length = take(0, 20);
                writeLong(length);
                for (int i = 0; i < length; i++) writeByte(take(0, 255));
                break;
            case 5:
                int symbol = t.symbols.indexOf((int) take(0, 15));
                if (symbol < 0) throw new Trouble(SchemaDesk.BAD);
                writeLong(symbol);
                break;
            case 6:
                for (int i = 0; i < t.a; i++) writeByte(take(0, 255));
                break;
            case 7:
                long count = take(0, 40);
                if (count > 0) writeLong(count);
                for (int i = 0; i < count; i++) writeValue(types.get(t.a), depth);
                writeLong(0);
                break;
            case 8:
                long branch = take(0, t.branches.size() - 1);
                writeLong(branch);
                writeValue(types.get(t.branches.get((int) branch)), depth);
                break;
            default:
                for (Field f : t.fields) writeValue(types.get(f.type), depth + 1);
                break;
        }
    }

    // ---- safe, same, different: start from yes, and take away until nothing changes ----

    int safe(int w, int r) {
        if (!isType(w) || !isType(r)) return SchemaDesk.REFUSED;
        int n = types.size();
        boolean[] noDefault = new boolean[n];
        boolean[][] unsafe = new boolean[n][n];
        for (boolean changed = true; changed;) {
            changed = false;
            for (int u = 0; u < n; u++) {
                if (!noDefault[u] && defaultFails(types.get(u), noDefault)) changed = noDefault[u] = true;
                for (int v = 0; v < n; v++) {
                    if (!unsafe[u][v] && pairFails(u, v, unsafe, noDefault)) changed = unsafe[u][v] = true;
                }
            }
        }
        return unsafe[w][r] ? 0 : 1;
    }

    private static boolean defaultFails(Type u, boolean[] noDefault) {
        if (u.kind == 5) return u.symbols.isEmpty();
        if (u.kind == 8) return u.branches.isEmpty() || noDefault[u.branches.get(0)];
        for (Field f : u.fields) if (!f.has || noDefault[f.type]) return true;
        return false;
    }

    private boolean pairFails(int wt, int rt, boolean[][] unsafe, boolean[] noDefault) {
        Type w = types.get(wt);
        Type r = types.get(rt);
        if (w.kind == 8) {
            for (int b : w.branches) if (unsafe[b][rt]) return true;
            return false;
        }
        if (r.kind == 8) {
            int branch = firstSuited(w, r);
            return branch < 0 || unsafe[wt][r.branches.get(branch)];
        }
        if (!suits(w, r)) return true;
        if (r.kind == 5) return r.fallback == -1 && !r.symbols.containsAll(w.symbols);
        if (r.kind == 7) return unsafe[w.a][r.a];
        for (Field f : r.fields) {
            int source = source(w, f);
            if (source >= 0 ? unsafe[w.fields.get(source).type][f.type] : !f.has || noDefault[f.type]) return true;
        }
        return false;
    }

    int same(int t, int u) {
        if (!isType(t) || !isType(u)) return SchemaDesk.REFUSED;
        return unlike()[t][u] ? 0 : 1;
    }

    int different() {
        boolean[][] unlike = unlike();
        int count = 0;
        for (int t = 0; t < types.size(); t++) {
            boolean first = true;
            for (int u = 0; u < t; u++) first &= unlike[t][u];
            if (first) count++;
        }
        return count;
    }

    private boolean[][] unlike() {
        int n = types.size();
        boolean[][] unlike = new boolean[n][n];
        for (boolean changed = true; changed;) {
            changed = false;
            for (int t = 0; t < n; t++) {
                for (int u = 0; u < n; u++) {
                    if (!unlike[t][u] && differ(types.get(t), types.get(u), unlike)) changed = unlike[t][u] = true;
                }
            }
        }
        return unlike;
    }

    private static boolean differ(Type t, Type u, boolean[][] unlike) {
        if (t.kind != u.kind || t.kind == 6 && t.a != u.a || t.kind == 7 && unlike[t.a][u.a]) return true;
        if (!t.symbols.equals(u.symbols) || t.fallback != u.fallback) return true;
        if (t.branches.size() != u.branches.size() || t.fields.size() != u.fields.size()) return true;
        for (int i = 0; i < t.branches.size(); i++) if (unlike[t.branches.get(i)][u.branches.get(i)]) return true;
        for (int i = 0; i < t.fields.size(); i++) {
            Field f = t.fields.get(i);
            Field g = u.fields.get(i);
            if (f.name != g.name || f.alias != g.alias || f.has != g.has || f.has && f.v != g.v) return true;
            if (unlike[f.type][g.type]) return true;
        }
        return false;
    }
}
