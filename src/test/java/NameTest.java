/** Terms: what a name is. Each is asked of about, of write, which refuses what is none, and of read. */
public final class NameTest {
    public static void main(String[] args) {
        Checks.sentence("A NAME has 1 to 255 units", NameTest::sizes);
        Checks.sentence("none is below 32", NameTest::below32);
        Checks.sentence("one of \" * / : < > ? \\ |", NameTest::marks);
        Checks.sentence("127", NameTest::the127);
        Checks.sentence("or 55296 .. 57343", NameTest::halves);
        Checks.sentence("or above 65533", NameTest::above65533);
        Checks.sentence("the last one is neither a blank nor a point", NameTest::lastOne);
        Checks.sentence("A NAME", NameTest::everyUnit);
        Checks.finish();
    }

    private static void sizes() {
        Checks.due("an empty row", new Counted().about(0, 1), 0);
        Checks.due("write of an empty row", new Counted().write(0, 0, 1), Names.ARGUMENT);
        for (int size = 1; size <= 255; size++) {
            Checks.due(size + " units", Counted.with("a".repeat(size)).about(0, 1), 1);
        }
        Checks.due("write of 255 units", Counted.with("a".repeat(255)).write(0, 0, 1), 21);
    }

    private static void below32() {
        for (int u = 0; u < 32; u++) {
            stands(u, false);
        }
        stands(' ', true);
        stands('!', true);
        Checks.due("31 in the 255th place", Counted.with("a".repeat(254) + "\u001f").about(0, 1), 0);
    }

    private static void marks() {
        for (char mark : "\"*/:<>?\\|".toCharArray()) {
            stands(mark, false);
            Checks.due(mark + " alone", Counted.with("" + mark).about(0, 1), 0);
            Checks.due(mark + " in the 255th place", Counted.with("a".repeat(254) + mark).about(0, 1), 0);
        }
        for (char near : "!#)+-.09;=@[]{}".toCharArray()) {
            stands(near, true);
        }
    }

    private static void the127() {
        stands(126, true);
        stands(127, false);
        stands(128, true);
    }

    private static void halves() {
        stands(55295, true);
        stands(55296, false);
        stands(56319, false);
        stands(56320, false);
        stands(57343, false);
        stands(57344, true);
        Checks.due("a pair of them", Counted.with("a\ud83d\ude00b").about(0, 1), 0);
    }

    private static void above65533() {
        stands(65532, true);
        stands(65533, true);
        stands(65534, false);
        stands(65535, false);
    }

    private static void lastOne() {
        String[] none = {".", " ", "..", "  ", ". ", " .", "a.", "a ", "a. ", "a .", "A.B.", "A.B ", "a".repeat(254) + ".", "a".repeat(254) + " "};
        for (String row : none) {
            Checks.due("about <" + row + ">", Counted.with(row).about(0, 1), 0);
            Checks.due("write of <" + row + ">", Counted.with(row).write(0, 0, 1), Names.ARGUMENT);
        }
        String[] names = {"a", ".a", " a", "..a", "  a", "a.b", "a b", "a. b", ". .a", "a".repeat(253) + ".a", "a".repeat(253) + " a"};
        for (String row : names) {
            Checks.due("about <" + row + ">", Counted.with(row).about(0, 1), 1);
            Checks.due("write of <" + row + ">", Counted.with(row).write(0, 0, 1) > 0 ? 1 : 0, 1);
        }
    }

    /** Whether a unit may be in a name, as the first, a middle and (blanks and points aside) the last one. */
    private static void stands(int u, boolean may) {
        char c = (char) u;
        String[] rows = {c + "ab", "a" + c + "b", "ab" + c};
        for (int k = 0; k < (u == ' ' || u == '.' ? 2 : 3); k++) {
            Counted x = Counted.with(rows[k]);
            Checks.due("about " + u + " in place " + k, x.about(0, 1), may ? 1 : 0);
            Checks.due("write of " + u + " in place " + k, x.write(0, 0, 1), may ? 2 : Names.ARGUMENT);
            Checks.due("read of " + u + " in place " + k, readWith(k, u), may ? 3 : Names.STATE);
        }
    }

    private static int readWith(int place, int u) {
        Counted x = Counted.with("abc");
        x.write(0, 0, 1);
        x.poke(0, 1 + 2 * place, u);
        x.poke(0, 2 + 2 * place, u >> 8);
        return x.read(1, 1, 1);
    }

    private static void everyUnit() {
        for (int u = 0; u < 65536; u++) {
            boolean bad = u < 32 || "\"*/:<>?\\|\u007f".indexOf(u) >= 0 || u >= 55296 && u <= 57343 || u > 65533;
            Counted x = new Counted();
            x.unit(0, u);
            Checks.due("about " + u + " alone", x.about(0, 1), bad || u == ' ' || u == '.' ? 0 : 1);
            x.unit(0, 'A');
            Checks.due("about " + u + " before an A", x.about(0, 1), bad ? 0 : 1);
        }
    }
}
