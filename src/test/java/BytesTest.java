/** Promises 9, 10 and 11: poke, byteAt and sum. */
public final class BytesTest {
    private static final int[] WRONG = {-1, 32, 33, 1024, Integer.MIN_VALUE, Integer.MAX_VALUE};

    public static void main(String[] args) {
        everyPlace();
        values();
        noSuch();
        sums();
        Checks.finish();
    }

    private static void everyPlace() {
        LongNames x = new LongNames();
        for (int k = 0; k < 1024; k++) {
            Checks.due("poke of " + k, x.poke(k / 32, k % 32, k * 7 + k / 32), true);
        }
        for (int k = 0; k < 1024; k++) {
            Checks.due("byte " + k, x.byteAt(k / 32, k % 32), (k * 7 + k / 32) % 256);
        }
    }

    private static void values() {
        LongNames x = new LongNames();
        int[] values = {0, 127, 128, 255, 256, 511, -1, -256, -128, Integer.MIN_VALUE, Integer.MAX_VALUE, 0x12345678};
        int[] bytes = {0, 127, 128, 255, 0, 255, 255, 0, 128, 0, 255, 0x78};
        for (int k = 0; k < values.length; k++) {
            Checks.due("poke(31, 31, " + values[k] + ")", x.poke(31, 31, values[k]), true);
            Checks.due("byteAt(31, 31)", x.byteAt(31, 31), bytes[k]);
        }
    }

    private static void noSuch() {
        LongNames x = new LongNames();
        for (int wrong : WRONG) {
            Checks.due("poke(" + wrong + ", 0, 1)", x.poke(wrong, 0, 1), false);
            Checks.due("poke(0, " + wrong + ", 1)", x.poke(0, wrong, 1), false);
            Checks.due("poke(1, " + wrong + ", 1)", x.poke(1, wrong, 1), false);
            Checks.due("byteAt(" + wrong + ", 0)", x.byteAt(wrong, 0), -1);
            Checks.due("byteAt(0, " + wrong + ")", x.byteAt(0, wrong), -1);
            Checks.due("byteAt(1, " + wrong + ")", x.byteAt(1, wrong), -1);
            Checks.due("sum(" + wrong + ")", x.sum(wrong), -1);
        }
        Checks.due("nothing is poked", Checks.slots(x), "\0".repeat(1024));
    }

    private static void sums() {
        LongNames x = new LongNames();
        Checks.pokeEntry(x, 31, "README  TXT");
        Checks.due("sum(31)", x.sum(31), 115);
        x.poke(31, 11, 99);
        Checks.due("sum(31) with a byte behind", x.sum(31), 115);
        Checks.due("sum(30)", x.sum(30), 0);
        for (int at = 0; at < 11; at++) {
            x.poke(2, at, 255);
        }
        Checks.due("sum(2) of bytes 255", x.sum(2), Checks.sumOf("\u00ff".repeat(11)));
        for (int at = 0; at < 11; at++) {
            LongNames y = new LongNames();
            y.poke(0, at, 1);
            // A lone 1 is turned to the right once for each byte behind it, in a ring of eight bits.
            Checks.due("sum of a 1 at " + at, y.sum(0), 1 << Math.floorMod(at - 10, 8));
        }
    }
}
