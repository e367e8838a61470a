/** Promise 1: empty rows and slots; and the constant. */
public final class NewObjectTest {
    public static void main(String[] args) {
        Checks.due("NONE", LongNames.NONE, -1);
        LongNames used = Checks.with("USED");
        Checks.write(used, 0, 0, 0);
        LongNames x = new LongNames();
        for (int row = 0; row < 2; row++) {
            for (int what = 0; what < 5; what++) {
                Checks.due("about(" + row + ", " + what + ")", x.about(row, what), 0);
            }
            Checks.due("letter(" + row + ", 0)", x.letter(row, 0), -1);
            Checks.due("clear(" + row + ")", x.clear(row), 0);
        }
        Checks.due("alike()", x.alike(), true);
        Checks.due("all bytes", Checks.slots(x), "\0".repeat(1024));
        Checks.due("sum(0)", x.sum(0), 0);
        Checks.finish();
    }
}
