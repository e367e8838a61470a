/** Promise 3: a row becomes empty. */
public final class ClearTest {
    public static void main(String[] args) {
        Checks.sentence("A row becomes empty", ClearTest::becomesEmpty);
        Checks.sentence("how many units it had", ClearTest::howMany);
        Checks.sentence("NONE if there is none such", ClearTest::noRow);
        Checks.finish();
    }

    private static void becomesEmpty() {
        for (int row = 0; row < 2; row++) {
            Counted x = new Counted().fill(row, "SHORT").fill(1 - row, "other");
            x.clear(row);
            for (int what = 0; what < 5; what++) {
                Checks.due("about(" + row + ", " + what + ")", x.about(row, what), 0);
            }
            Checks.due("letter(" + row + ", 0)", x.letter(row, 0), -1);
            Checks.due("the other row stays", x.text(1 - row), "other");
            x.unit(row, 'n');
            Checks.due("the first unit after it", x.text(row), "n");
        }
        Counted y = Counted.with("SHORT");
        y.write(0, 0, 0);
        y.clear(0);
        Checks.due("the slots stay", y.entry(0), "SHORT      ");
    }

    private static void howMany() {
        int[] sizes = {0, 1, 2, 13, 254, 255};
        for (int size : sizes) {
            for (int row = 0; row < 2; row++) {
                Counted x = new Counted().fill(row, "*".repeat(size));
                Checks.due("clear(" + row + ") of " + size, x.clear(row), size);
                Checks.due("clear(" + row + ") again", x.clear(row), 0);
            }
        }
        Counted y = Counted.with("a".repeat(255));
        y.unit(0, 'b');
        y.unit(0, -1);
        Checks.due("clear(0) after refused units", y.clear(0), 255);
    }

    private static void noRow() {
        Counted x = Counted.with("a").fill(1, "bc");
        for (int row : Checks.NO_ROWS) {
            Checks.due("clear(" + row + ")", x.clear(row), -1);
        }
        Checks.due("row 0 stays", x.text(0), "a");
        Checks.due("row 1 stays", x.text(1), "bc");
    }
}
