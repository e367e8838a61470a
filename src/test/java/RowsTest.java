/** Promises 2, 3 and 4: unit, clear and about. */
public final class RowsTest {
    private static final int[] NO_ROWS = {-1, 2, 3, Integer.MIN_VALUE, Integer.MAX_VALUE};

    public static void main(String[] args) {
        units();
        clears();
        counts();
        nameUnits();
        nameEnds();
        shortNames();
        noSuch();
        Checks.finish();
    }

    private static void units() {
        LongNames x = new LongNames();
        int[] wrong = {-1, 65536, Integer.MIN_VALUE, Integer.MAX_VALUE};
        for (int u : wrong) {
            Checks.due("unit(0, " + u + ")", x.unit(0, u), false);
        }
        for (int row : NO_ROWS) {
            Checks.due("unit(" + row + ", 65)", x.unit(row, 65), false);
        }
        Checks.due("about(0, 0)", x.about(0, 0), 0);
        Checks.due("about(1, 0)", x.about(1, 0), 0);
        for (int i = 0; i < 255; i++) {
            Checks.due("unit(1, " + i + ")", x.unit(1, 65535 - i), true);
            Checks.due("about(1, 0)", x.about(1, 0), i + 1);
        }
    }

    private static void clears() {
        LongNames x = new LongNames();
        for (int i = 0; i < 255; i++) {
            x.unit(0, 'a');
        }
        Checks.due("unit 256", x.unit(0, 'a'), false);
        Checks.due("about(0, 0) when full", x.about(0, 0), 255);
        Checks.due("about(0, 1) when full", x.about(0, 1), 1);
        Checks.due("unit(1, 98)", x.unit(1, 'b'), true);
        for (int row : NO_ROWS) {
            Checks.due("clear(" + row + ")", x.clear(row), -1);
        }
        Checks.due("clear(0)", x.clear(0), 255);
        Checks.due("clear(0) again", x.clear(0), 0);
        Checks.due("about(0, 0)", x.about(0, 0), 0);
        Checks.due("the other row stays", Checks.text(x, 1), "b");
        Checks.due("unit after clear", x.unit(0, 'c'), true);
        Checks.due("row 0", Checks.text(x, 0), "c");
        Checks.due("clear(1)", x.clear(1), 1);
    }

    private static void counts() {
        int[] sizes = {0, 1, 12, 13, 14, 26, 27, 247, 248, 254, 255};
        int[] parts = {0, 1, 1, 1, 2, 2, 3, 19, 20, 20, 20};
        for (int k = 0; k < sizes.length; k++) {
            LongNames x = Checks.with("\u0001".repeat(sizes[k]));
            Checks.due("about(0, 0) of " + sizes[k], x.about(0, 0), sizes[k]);
            Checks.due("about(0, 3) of " + sizes[k], x.about(0, 3), parts[k]);
            Checks.due("about(0, 4) of " + sizes[k], x.about(0, 4), sizes[k]);
        }
        int[] edges = {0, 127, 128, 2047, 2048, 55296, 57343, 65535};
        int[] bytes = {1, 1, 2, 2, 3, 3, 3, 3};
        for (int k = 0; k < edges.length; k++) {
            Checks.due("bytes of " + edges[k], Checks.with("" + (char) edges[k]).about(0, 4), bytes[k]);
        }
    }

    /** Each unit of all as the first one of two, and as the only one. */
    private static void nameUnits() {
        String marks = "\"*/:<>?\\|\u007f";
        for (int u = 0; u < 65536; u++) {
            boolean bad = u < 32 || marks.indexOf(u) >= 0 || u >= 55296 && u <= 57343 || u > 65533;
            LongNames x = new LongNames();
            x.unit(0, u);
            Checks.due("about(0, 1) of " + u, x.about(0, 1), bad || u == ' ' || u == '.' ? 0 : 1);
            boolean small = u >= 'A' && u <= 'Z' || u >= '0' && u <= '9' || u < 128 && "!#$%&'()-@^_`{}~".indexOf(u) >= 0;
            Checks.due("about(0, 2) of " + u, x.about(0, 2), small ? 1 : 0);
            x.unit(0, 'A');
            Checks.due("about(0, 1) of " + u + ", A", x.about(0, 1), bad ? 0 : 1);
            Checks.due("about(0, 2) of " + u + ", A", x.about(0, 2), small ? 1 : 0);
        }
    }

    private static void nameEnds() {
        String[] names = {"a", ".a", " a", "..a", "a.b", "a b", "a. b", "{", "\u00e9", "\ufffd", "\ud7ff", "\ue000"};
        String[] none = {"", ".", " ", "..", "a.", "a ", "a. ", "a\u0000", "\u001fa", "a\ud800b", "a\udfff", "\ufffe", "\uffff"};
        for (String name : names) {
            Checks.due("name <" + name + ">", Checks.with(name).about(0, 1), 1);
        }
        for (String name : none) {
            Checks.due("no name <" + name + ">", Checks.with(name).about(0, 1), 0);
        }
        Checks.due("a bad unit in the 255th place", Checks.with("a".repeat(254) + "?").about(0, 1), 0);
    }

    private static void shortNames() {
        String[] shorts = {"A", "ABCDEFGH", "ABCDEFGH.IJK", "A.B", "A.BC", "1.2", "~1", "~.~", "!#$%&'()", "-@^_`{}~.A"};
        String[] none = {"", ".", "A.", ".A", "a", "A.b", "ABCDEFGHI", "ABCDEFGHI.A", "A.BCDE", "A.B.C", "A..B", "A B",
            "A ", " A", "A.B ", "A. B", "A+B", "A,B", "A;B", "A=B", "[A]", "\u00c9", "A.\u0141", "A..", "ABCDEFGH."};
        for (String name : shorts) {
            LongNames x = Checks.with(name);
            Checks.due("short <" + name + ">", x.about(0, 2), 1);
            Checks.due("a short name is a name <" + name + ">", x.about(0, 1), 1);
        }
        for (String name : none) {
            Checks.due("not short <" + name + ">", Checks.with(name).about(0, 2), 0);
        }
    }

    private static void noSuch() {
        LongNames x = Checks.with("A");
        int[] whats = {-1, 5, 6, Integer.MIN_VALUE, Integer.MAX_VALUE};
        for (int what : whats) {
            Checks.due("about(0, " + what + ")", x.about(0, what), -1);
        }
        for (int row : NO_ROWS) {
            for (int what = -1; what < 6; what++) {
                Checks.due("about(" + row + ", " + what + ")", x.about(row, what), -1);
            }
        }
        Checks.due("about(1, 0)", x.about(1, 0), 0);
    }
}
