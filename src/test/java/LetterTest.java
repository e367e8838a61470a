import java.nio.charset.StandardCharsets;

/** Promise 5: the bytes of a row. */
public final class LetterTest {
    public static void main(String[] args) {
        Checks.sentence("Byte i of a row", LetterTest::mixed);
        Checks.sentence("a unit below 128 is one byte", LetterTest::one);
        Checks.sentence("below 2048 two", LetterTest::two);
        Checks.sentence("else three", LetterTest::three);
        Checks.sentence("(110xxxxx, 1110xxxx first, 10xxxxxx behind, the highest bits first)", LetterTest::everyUnit);
        Checks.sentence("NONE if there is none such", LetterTest::noByte);
        Checks.sentence("none such", LetterTest::noRow);
        Checks.finish();
    }

    private static void look(int row, String text, int... want) {
        Counted x = new Counted().fill(row, text);
        for (int i = 0; i < want.length; i++) {
            Checks.due("byte " + i + " of " + (int) text.charAt(0), x.letter(row, i), want[i]);
        }
        Checks.due("the byte behind", x.letter(row, want.length), -1);
    }

    private static void mixed() {
        String text = "a\u00e9\u4e2d\u0000\u07ff\u0800\u007f\u0080\uffff";
        byte[] want = text.getBytes(StandardCharsets.UTF_8);
        for (int row = 0; row < 2; row++) {
            Counted x = new Counted().fill(row, text).fill(1 - row, "other");
            for (int i = 0; i < want.length; i++) {
                Checks.due("letter(" + row + ", " + i + ")", x.letter(row, i), want[i] & 255);
            }
            Checks.due("the byte behind", x.letter(row, want.length), -1);
            Checks.due("backwards too", x.letter(row, 0), 'a');
            Checks.due("the row stays", x.about(row, 0), text.length());
        }
    }

    private static void one() {
        look(0, "\u0000", 0);
        look(0, "A", 65);
        look(1, "\u007f", 127);
    }

    private static void two() {
        look(0, "\u0080", 194, 128);
        look(0, "\u00bf", 194, 191);
        look(1, "\u00c0", 195, 128);
        look(0, "\u07ff", 223, 191);
    }

    private static void three() {
        look(0, "\u0800", 224, 160, 128);
        look(0, "\u0fff", 224, 191, 191);
        look(1, "\u1000", 225, 128, 128);
        look(0, "\ud7ff", 237, 159, 191);
        look(0, "\ud800", 237, 160, 128);
        look(0, "\udfff", 237, 191, 191);
        look(0, "\ue000", 238, 128, 128);
        look(0, "\ufffe", 239, 191, 190);
        look(1, "\uffff", 239, 191, 191);
        // Two units that Java takes for one character are two here.
        look(0, "\ud83d\ude00", 237, 160, 189, 237, 184, 128);
    }

    /** Java's own encoder knows all units but 55296 .. 57343. */
    private static void everyUnit() {
        for (int u = 0; u < 65536; u++) {
            if (u < 55296 || u > 57343) {
                Counted x = new Counted();
                x.unit(1, u);
                byte[] want = String.valueOf((char) u).getBytes(StandardCharsets.UTF_8);
                Checks.due("bytes of " + u, x.about(1, 4), want.length);
                for (int i = 0; i < want.length; i++) {
                    Checks.due("byte " + i + " of " + u, x.letter(1, i), want[i] & 255);
                }
                Checks.due("the byte behind " + u, x.letter(1, want.length), -1);
            }
        }
    }

    private static void noByte() {
        int[] never = {-1, -2, 765, 766, 65536, Integer.MIN_VALUE, Integer.MAX_VALUE};
        String[] texts = {"", "A", "\u00e9", "\u4e2d", "n".repeat(255), "\u4e2d".repeat(255)};
        for (String text : texts) {
            Counted x = Counted.with(text).fill(1, "other");
            int size = text.getBytes(StandardCharsets.UTF_8).length;
            for (int i : never) {
                Checks.due("letter(0, " + i + ") of " + size, x.letter(0, i), -1);
            }
            Checks.due("letter(0, " + size + ")", x.letter(0, size), -1);
            if (size > 0) {
                Checks.due("the last one of " + size, x.letter(0, size - 1) >= 0 ? 1 : 0, 1);
            }
        }
        Counted cleared = Counted.with("gone");
        cleared.clear(0);
        Checks.due("letter of an emptied row", cleared.letter(0, 0), -1);
    }

    private static void noRow() {
        Counted x = Counted.with("A").fill(1, "B");
        for (int row : Checks.NO_ROWS) {
            Checks.due("letter(" + row + ", 0)", x.letter(row, 0), -1);
            Checks.due("letter(" + row + ", -1)", x.letter(row, -1), -1);
        }
    }
}
