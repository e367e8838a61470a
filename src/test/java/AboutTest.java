/** Promise 4: about a row. What a name and a short name are, NameTest and ShortNameTest look at. */
public final class AboutTest {
    public static void main(String[] args) {
        Checks.sentence("0 how many units", AboutTest::units);
        Checks.sentence("1 whether it is a name", AboutTest::name);
        Checks.sentence("2 whether it is a short name as shown", AboutTest::shortName);
        Checks.sentence("3 how many parts its units need", AboutTest::parts);
        Checks.sentence("4 how many bytes (below)", AboutTest::bytes);
        Checks.sentence("NONE for another row", AboutTest::noRow);
        Checks.sentence("or what", AboutTest::noWhat);
        Checks.sentence("Of a row", AboutTest::nothingChanges);
        Checks.finish();
    }

    private static void units() {
        int[] sizes = {0, 1, 2, 128, 254, 255};
        for (int size : sizes) {
            for (int row = 0; row < 2; row++) {
                Counted x = new Counted().fill(row, "\uffff".repeat(size));
                Checks.due("about(" + row + ", 0) of " + size, x.about(row, 0), size);
                Checks.due("about the other row", x.about(1 - row, 0), 0);
            }
        }
    }

    private static void name() {
        for (int row = 0; row < 2; row++) {
            Checks.due("a name", new Counted().fill(row, "a name").about(row, 1), 1);
            Checks.due("a short name", new Counted().fill(row, "NAME.TXT").about(row, 1), 1);
            Checks.due("no name", new Counted().fill(row, "no name?").about(row, 1), 0);
            Checks.due("an empty row", new Counted().fill(1 - row, "a").about(row, 1), 0);
        }
    }

    private static void shortName() {
        for (int row = 0; row < 2; row++) {
            Checks.due("a short name", new Counted().fill(row, "NAME.TXT").about(row, 2), 1);
            Checks.due("a name that is not short", new Counted().fill(row, "name.txt").about(row, 2), 0);
            Checks.due("an empty row", new Counted().fill(1 - row, "A").about(row, 2), 0);
        }
    }

    private static void parts() {
        for (int size = 0; size <= 255; size++) {
            Counted x = Counted.with("\u0001".repeat(size));
            Checks.due("parts of " + size, x.about(0, 3), size / 13 + (size % 13 == 0 ? 0 : 1));
        }
        Checks.due("parts of an empty row", new Counted().about(0, 3), 0);
        Checks.due("parts of 13 units", Counted.with("n".repeat(13)).about(0, 3), 1);
        Checks.due("parts of 14 units", Counted.with("n".repeat(14)).about(0, 3), 2);
        Checks.due("parts of 255 units", Counted.with("n".repeat(255)).about(0, 3), 20);
        Checks.due("parts of a short name", Counted.with("A").about(0, 3), 1);
    }

    private static void bytes() {
        int[] units = {0, 127, 128, 2047, 2048, 55296, 57343, 65535};
        int[] widths = {1, 1, 2, 2, 3, 3, 3, 3};
        int[] sizes = {1, 2, 255};
        for (int k = 0; k < units.length; k++) {
            for (int size : sizes) {
                Counted x = Counted.with(String.valueOf((char) units[k]).repeat(size));
                Checks.due("bytes of " + size + " times " + units[k], x.about(0, 4), size * widths[k]);
            }
        }
        Checks.due("bytes of an empty row", new Counted().about(1, 4), 0);
        Checks.due("bytes of a mixed row", new Counted().fill(1, "a\u0080\u0800\u007f").about(1, 4), 7);
    }

    private static void noRow() {
        Counted x = Counted.with("A").fill(1, "B");
        for (int row : Checks.NO_ROWS) {
            for (int what = -1; what < 6; what++) {
                Checks.due("about(" + row + ", " + what + ")", x.about(row, what), -1);
            }
        }
    }

    private static void noWhat() {
        int[] whats = {-1, -2, 5, 6, 256, 65536, Integer.MIN_VALUE, Integer.MAX_VALUE};
        for (int row = 0; row < 2; row++) {
            Counted x = new Counted().fill(row, "A");
            for (int what : whats) {
                Checks.due("about(" + row + ", " + what + ")", x.about(row, what), -1);
            }
        }
    }

    private static void nothingChanges() {
        Counted x = Counted.with("Row.0").fill(1, "ROW.1");
        for (int what = -1; what < 6; what++) {
            x.about(0, what);
            x.about(1, what);
        }
        Checks.due("row 0", x.text(0), "Row.0");
        Checks.due("row 1", x.text(1), "ROW.1");
        Checks.due("slot 0", x.slot(0), "\0".repeat(32));
    }
}
