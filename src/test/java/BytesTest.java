/** Promises 7 to 10: add, at, wipe, number. */
public final class BytesTest {
    private static final int REFUSED = SchemaDesk.REFUSED;
    private static final int LOW = Integer.MIN_VALUE;
    private static final int HIGH = Integer.MAX_VALUE;

    public static void main(String[] args) {
        addAndAt();
        wipe();
        number();
        Check.end();
    }

    private static void addAndAt() {
        SchemaDesk x = new SchemaDesk();
        int[] wrong = {-1, 256, LOW, HIGH};
        for (int b : wrong) Check.due("add(" + b + ")", x.add(b), REFUSED);
        Check.due("none was added", x.at(0), REFUSED);
        for (int i = 0; i < 100; i++) Check.due("byte " + i, x.add(i == 99 ? 255 : i), i + 1);
        Check.due("the 101st", x.add(0), REFUSED);
        for (int i = 0; i < 99; i++) Check.due("at(" + i + ")", x.at(i), i);
        Check.due("at(99)", x.at(99), 255);
        int[] none = {-1, 100, LOW, HIGH};
        for (int k : none) Check.due("at(" + k + ")", x.at(k), REFUSED);
    }

    private static void wipe() {
        SchemaDesk x = new SchemaDesk();
        int t = x.type(3, 0);
        Check.setBytes(x, 2, 4);
        Check.setNumbers(x, 7, 8, 9);
        x.read(t, t);
        Check.due("bytes", x.wipe(false), 2);
        Check.due("no bytes", x.at(0), REFUSED);
        Check.list("the result stays", x, 1);
        Check.due("bytes again", x.wipe(false), 0);
        Check.due("numbers stayed", x.wipe(true), 3);
        Check.due("numbers again", x.wipe(true), 0);
        Check.due("no numbers", x.write(t), SchemaDesk.SHORT);
        Check.setBytes(x, 5);
        x.number(1);
        Check.due("numbers alone", x.wipe(true), 1);
        Check.bytes("bytes stay", x, 5);
        Check.due("the first anew", x.number(-3), 1);
        Check.due("the first anew", x.write(t), 1);
        Check.bytes("the first anew", x, 5);
    }

    private static void number() {
        SchemaDesk x = new SchemaDesk();
        for (int i = 0; i < 100; i++) Check.due("number " + i, x.number(Long.MIN_VALUE + i), i + 1);
        Check.due("the 101st", x.number(0), REFUSED);
        Check.due("as many as were taken", x.wipe(true), 100);
    }
}
