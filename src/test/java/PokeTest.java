/** Promise 9: a byte of a slot is set. */
public final class PokeTest {
    public static void main(String[] args) {
        Checks.sentence("A byte of a slot becomes", PokeTest::everyByte);
        Checks.sentence("the lowest eight bits of value: true", PokeTest::lowestBits);
        Checks.sentence("false if there is none such", PokeTest::noByte);
        Checks.finish();
    }

    /** 1024 bytes are too many for one object: so each slot has its own, and all others must stay 0. */
    private static void everyByte() {
        for (int slot = 0; slot < 32; slot++) {
            Counted x = new Counted();
            for (int at = 0; at < 32; at++) {
                Checks.due("poke(" + slot + ", " + at + ")", x.poke(slot, at, 7 * slot + at + 1), 1);
            }
            for (int at = 0; at < 32; at++) {
                Checks.due("byteAt(" + slot + ", " + at + ")", x.byteAt(slot, at), (7 * slot + at + 1) % 256);
            }
            for (int other = 0; other < 32; other++) {
                if (other != slot) {
                    Checks.due("byte 0 of " + other, x.byteAt(other, 0), 0);
                    Checks.due("byte 31 of " + other, x.byteAt(other, 31), 0);
                }
            }
        }
        Counted x = new Counted();
        x.poke(3, 3, 3);
        Checks.due("the same value again", x.poke(3, 3, 3), 1);
        Checks.due("another value", x.poke(3, 3, 4), 1);
        Checks.due("byteAt(3, 3)", x.byteAt(3, 3), 4);
    }

    private static void lowestBits() {
        int[] values = {0, 1, 127, 128, 255, 256, 257, 511, 512, -1, -2, -128, -255, -256, -257, Integer.MIN_VALUE,
            Integer.MIN_VALUE + 1, Integer.MAX_VALUE, Integer.MAX_VALUE - 1, 0x12345678};
        int[] bytes = {0, 1, 127, 128, 255, 0, 1, 255, 0, 255, 254, 128, 1, 0, 255, 0, 1, 255, 254, 0x78};
        int[] places = {0, 31};
        for (int place : places) {
            Counted x = new Counted();
            for (int k = 0; k < values.length; k++) {
                Checks.due("poke(" + place + ", " + place + ", " + values[k] + ")", x.poke(place, place, values[k]), 1);
                Checks.due("byteAt", x.byteAt(place, place), bytes[k]);
            }
        }
    }

    private static Counted refused() {
        Counted x = new Counted();
        for (int none : Checks.NO_SLOTS) {
            Checks.due("poke(" + none + ", 0, 1)", x.poke(none, 0, 1), 0);
            Checks.due("poke(" + none + ", 31, 1)", x.poke(none, 31, 1), 0);
            Checks.due("poke(0, " + none + ", 1)", x.poke(0, none, 1), 0);
            Checks.due("poke(1, " + none + ", 1)", x.poke(1, none, 1), 0);
            Checks.due("poke(31, " + none + ", 1)", x.poke(31, none, 1), 0);
            Checks.due("poke(" + none + ", " + none + ", 1)", x.poke(none, none, 1), 0);
        }
        return x;
    }

    private static void noByte() {
        Checks.due("all bytes", Counted.slots(PokeTest::refused), "\0".repeat(1024));
    }
}
