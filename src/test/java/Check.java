/** Counts the answers that are not the ones that are due, and ends a test. */
final class Check {
    private static int looked = 0;
    private static int wrong = 0;

    private Check() {
    }

    static void due(String what, long got, long want) {
        looked++;
        if (got == want) return;
        wrong++;
        System.out.println(what + " answered " + got + ", due is " + want);
    }

    static void due(String what, boolean got, boolean want) {
        due(what, got ? 1 : 0, want ? 1 : 0);
    }

    /** Looks at the whole result of the latest read. */
    static void list(String what, SchemaDesk x, long... want) {
        due(what + ": result(-1)", x.result(-1), want.length);
        for (int k = 0; k < want.length; k++) due(what + ": result(" + k + ")", x.result(k), want[k]);
        due(what + ": result(" + want.length + ")", x.result(want.length), SchemaDesk.REFUSED);
    }

    /** Looks at all bytes. */
    static void bytes(String what, SchemaDesk x, int... want) {
        for (int k = 0; k < want.length; k++) due(what + ": at(" + k + ")", x.at(k), want[k]);
        due(what + ": at(" + want.length + ")", x.at(want.length), SchemaDesk.REFUSED);
    }

    /** A read that takes all bytes that are given. */
    static void reads(String what, SchemaDesk x, int w, int r, int[] bytes, long... want) {
        setBytes(x, bytes);
        due(what + ": read", x.read(w, r), bytes.length);
        list(what, x, want);
    }

    static void readFails(String what, SchemaDesk x, int w, int r, int code, int... bytes) {
        setBytes(x, bytes);
        due(what + ": read", x.read(w, r), code);
        list(what + ": no result", x);
    }

    static void writes(String what, SchemaDesk x, int t, long[] numbers, int... want) {
        setNumbers(x, numbers);
        due(what + ": write", x.write(t), want.length);
        bytes(what, x, want);
    }

    /** A write that changes neither bytes nor numbers. */
    static void writeFails(String what, SchemaDesk x, int t, int code, long... numbers) {
        setBytes(x, 9, 8, 7);
        setNumbers(x, numbers);
        due(what + ": write", x.write(t), code);
        bytes(what + ": the bytes stay", x, 9, 8, 7);
        due(what + ": the numbers stay", x.wipe(true), numbers.length);
    }

    static int[] of(int... bytes) {
        return bytes;
    }

    static long[] row(long... numbers) {
        return numbers;
    }

    static void setBytes(SchemaDesk x, int... bytes) {
        x.wipe(false);
        for (int b : bytes) x.add(b);
    }

    static void setNumbers(SchemaDesk x, long... numbers) {
        x.wipe(true);
        for (long v : numbers) x.number(v);
    }

    static void end() {
        System.out.println(wrong == 0 ? looked + " answers are as due" : wrong + " of " + looked + " answers are not as due");
        if (wrong != 0) System.exit(1);
    }
}
