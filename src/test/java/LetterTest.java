import java.nio.charset.StandardCharsets;

/** Promise 5: the bytes of a row. */
public final class LetterTest {
    public static void main(String[] args) {
        everyUnit();
        lonelyHalves();
        mixed();
        noSuch();
        Checks.finish();
    }

    /** Java's own encoder knows all units but 55296 .. 57343, which it takes in pairs. */
    private static void everyUnit() {
        for (int u = 0; u < 65536; u++) {
            if (u < 55296 || u > 57343) {
                LongNames x = new LongNames();
                x.unit(1, u);
                byte[] want = String.valueOf((char) u).getBytes(StandardCharsets.UTF_8);
                look(x, 1, want, "unit " + u);
            }
        }
    }

    private static void lonelyHalves() {
        look(Checks.with("\ud800"), 0, new byte[] {(byte) 237, (byte) 160, (byte) 128}, "55296");
        look(Checks.with("\udfff"), 0, new byte[] {(byte) 237, (byte) 191, (byte) 191}, "57343");
        byte[] pair = {(byte) 237, (byte) 160, (byte) 189, (byte) 237, (byte) 184, (byte) 128};
        look(Checks.with("\ud83d\ude00"), 0, pair, "55357, 56832");
    }

    private static void mixed() {
        String text = "a\u00e9\u4e2d\u0000\u07ff\u0800\u007f\u0080\uffff" + "\uffff".repeat(246);
        look(Checks.with(text), 0, text.getBytes(StandardCharsets.UTF_8), "mixed");
    }

    private static void look(LongNames x, int row, byte[] want, String what) {
        Checks.due("bytes of " + what, x.about(row, 4), want.length);
        for (int i = 0; i < want.length; i++) {
            Checks.due("byte " + i + " of " + what, x.letter(row, i), want[i] & 255);
        }
        Checks.due("the byte behind " + what, x.letter(row, want.length), -1);
        Checks.due("the byte before " + what, x.letter(row, -1), -1);
    }

    private static void noSuch() {
        LongNames x = Checks.with("A\u4e2d");
        int[] wrong = {-1, 4, 5, Integer.MIN_VALUE, Integer.MAX_VALUE};
        for (int i : wrong) {
            Checks.due("letter(0, " + i + ")", x.letter(0, i), -1);
        }
        int[] rows = {-1, 2, Integer.MIN_VALUE, Integer.MAX_VALUE};
        for (int row : rows) {
            Checks.due("letter(" + row + ", 0)", x.letter(row, 0), -1);
        }
        Checks.due("letter(1, 0)", x.letter(1, 0), -1);
    }
}
