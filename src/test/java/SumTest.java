/** Promise 11: the sum of a slot's eleven bytes. */
public final class SumTest {
    public static void main(String[] args) {
        Checks.sentence("The SUM of a short name: 0, then for each of its 11 bytes", SumTest::elevenBytes);
        Checks.sentence("the lowest bit times 128 + the other seven bits, as a number", SumTest::turned);
        Checks.sentence("+ the byte, of which eight bits are kept", SumTest::eightBits);
        Checks.sentence("The sum of the eleven bytes of a slot", SumTest::anyBytes);
        Checks.sentence("of a slot", SumTest::everySlot);
        Checks.sentence("NONE if there is none such.", SumTest::noSlot);
        Checks.finish();
    }

    private static int sumOf(int... bytes) {
        Counted x = new Counted();
        for (int at = 0; at < bytes.length; at++) {
            x.poke(6, at, bytes[at]);
        }
        return x.sum(6);
    }

    private static void elevenBytes() {
        Checks.due("no bytes", sumOf(), 0);
        Checks.due("the last of eleven", sumOf(0, 0, 0, 0, 0, 0, 0, 0, 0, 0, 200), 200);
        Checks.due("the twelfth", sumOf(0, 0, 0, 0, 0, 0, 0, 0, 0, 0, 0, 200), 0);
        for (int at = 0; at < 32; at++) {
            Counted x = new Counted();
            x.poke(6, at, 255);
            Checks.due("whether byte " + at + " counts", x.sum(6) == 0 ? 0 : 1, at < 11 ? 1 : 0);
        }
        Counted known = new Counted().pokeText(0, 0, "README  TXT");
        Checks.due("README.TXT", known.sum(0), 115);
    }

    /** A lone bit goes one place down for each byte behind it, and from the lowest place to the highest. */
    private static void turned() {
        for (int at = 0; at < 11; at++) {
            for (int bit = 0; bit < 8; bit++) {
                Counted x = new Counted();
                x.poke(6, at, 1 << bit);
                Checks.due("bit " + bit + " at " + at, x.sum(6), 1 << Math.floorMod(bit + at - 10, 8));
            }
        }
        Checks.due("a 1 next to last", sumOf(0, 0, 0, 0, 0, 0, 0, 0, 0, 1, 0), 128);
        Checks.due("a 2 next to last", sumOf(0, 0, 0, 0, 0, 0, 0, 0, 0, 2, 0), 1);
        Checks.due("a 255 next to last", sumOf(0, 0, 0, 0, 0, 0, 0, 0, 0, 255, 0), 255);
    }

    private static void eightBits() {
        Checks.due("128 and 128", sumOf(0, 0, 0, 0, 0, 0, 0, 0, 0, 1, 128), 0);
        Checks.due("255 and 255", sumOf(0, 0, 0, 0, 0, 0, 0, 0, 0, 255, 255), 254);
        Checks.due("255 and 1", sumOf(0, 0, 0, 0, 0, 0, 0, 0, 0, 255, 1), 0);
        Checks.due("254 and 128", sumOf(0, 0, 0, 0, 0, 0, 0, 0, 0, 254, 128), 255);
        Checks.due("254 and 129", sumOf(0, 0, 0, 0, 0, 0, 0, 0, 0, 254, 129), 0);
        Checks.due("a carry is not kept for the next byte", sumOf(0, 0, 0, 0, 0, 0, 0, 0, 255, 3, 0), 1);
        Checks.due("eleven times 255", sumOf(255, 255, 255, 255, 255, 255, 255, 255, 255, 255, 255),
            Checks.sumOf("\u00ff".repeat(11)));
    }

    private static void anyBytes() {
        String[] elevens = {"README~1TXT", "no short na", "           ", "\0".repeat(11), "\u00ff\u0080\u007f\1\2\3\4\5\6\7\u00fe"};
        for (String eleven : elevens) {
            Counted x = new Counted().pokeText(0, 0, eleven);
            Checks.due("sum of <" + eleven + ">", x.sum(0), Checks.sumOf(eleven));
            Checks.due("the bytes stay", x.entry(0), eleven);
        }
    }

    private static void everySlot() {
        Counted x = new Counted();
        for (int slot = 0; slot < 32; slot++) {
            x.poke(slot, 10, 100 + slot);
        }
        for (int slot = 0; slot < 32; slot++) {
            Checks.due("sum(" + slot + ")", x.sum(slot), 100 + slot);
        }
    }

    private static void noSlot() {
        Counted x = new Counted();
        x.poke(0, 10, 1);
        x.poke(31, 10, 1);
        for (int none : Checks.NO_SLOTS) {
            Checks.due("sum(" + none + ")", x.sum(none), -1);
        }
    }
}
