/** Promise 10: a byte of a slot is told. */
public final class ByteAtTest {
    public static void main(String[] args) {
        Checks.sentence("A byte of a slot", ByteAtTest::everyByte);
        Checks.sentence("NONE if there is none such.", ByteAtTest::noByte);
        Checks.finish();
    }

    private static void everyByte() {
        for (int value = 0; value < 256; value++) {
            Counted x = new Counted();
            x.poke(value % 32, value / 8, value);
            Checks.due("byteAt of a " + value, x.byteAt(value % 32, value / 8), value);
            Checks.due("and again", x.byteAt(value % 32, value / 8), value);
        }
        for (int slot = 0; slot < 32; slot++) {
            Counted x = new Counted();
            x.poke(slot, 0, 200);
            x.poke(slot, 31, 201);
            Checks.due("first byte of " + slot, x.byteAt(slot, 0), 200);
            Checks.due("last byte of " + slot, x.byteAt(slot, 31), 201);
            Checks.due("the second", x.byteAt(slot, 1), 0);
            Checks.due("the one before the last", x.byteAt(slot, 30), 0);
        }
        Counted written = Counted.with("WRITTEN");
        written.write(0, 31, 0);
        Checks.due("what was written", written.slot(31), "WRITTEN    " + "\0".repeat(21));
    }

    private static void noByte() {
        Counted x = new Counted();
        int[] slots = {0, 1, 31};
        for (int slot : slots) {
            x.poke(slot, 0, 7);
            x.poke(slot, 31, 8);
        }
        for (int none : Checks.NO_SLOTS) {
            Checks.due("byteAt(" + none + ", 0)", x.byteAt(none, 0), -1);
            Checks.due("byteAt(" + none + ", 31)", x.byteAt(none, 31), -1);
            Checks.due("byteAt(" + none + ", " + none + ")", x.byteAt(none, none), -1);
            for (int slot : slots) {
                Checks.due("byteAt(" + slot + ", " + none + ")", x.byteAt(slot, none), -1);
            }
        }
    }
}
