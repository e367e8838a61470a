/** Promise 1: a new object; and the constant. */
public final class NewObjectTest {
    public static void main(String[] args) {
        Checks.sentence("`NONE = -1`: None.", NewObjectTest::none);
        Checks.sentence("Empty rows", NewObjectTest::emptyRows);
        Checks.sentence("There are two ROWS of units, 0 and 1", NewObjectTest::twoRows);
        Checks.sentence("and slots", NewObjectTest::emptySlots);
        Checks.sentence("SLOTS 0 .. 31 have 32 bytes each, all 0 at first.", NewObjectTest::zeroBytes);
        Checks.sentence("A new object", NewObjectTest::nothingOfAnother);
        Checks.finish();
    }

    private static void none() {
        Checks.due("NONE", LongNames.NONE, -1);
    }

    private static void emptyRows() {
        for (int row = 0; row < 2; row++) {
            Counted x = new Counted();
            for (int what = 0; what < 5; what++) {
                Checks.due("about(" + row + ", " + what + ")", x.about(row, what), 0);
            }
            Checks.due("letter(" + row + ", 0)", x.letter(row, 0), -1);
            Checks.due("clear(" + row + ")", x.clear(row), 0);
            Checks.due("alike()", x.alike(), 1);
            Checks.due("write of an empty row " + row, x.write(row, 0, 1), Names.ARGUMENT);
        }
    }

    private static void twoRows() {
        Counted x = new Counted();
        Checks.due("unit(0, 65)", x.unit(0, 'A'), 1);
        Checks.due("unit(1, 66)", x.unit(1, 'B'), 1);
        Checks.due("unit(1, 67)", x.unit(1, 'C'), 1);
        Checks.due("row 0", x.text(0), "A");
        Checks.due("row 1", x.text(1), "BC");
    }

    private static void emptySlots() {
        Counted x = new Counted();
        for (int slot = 0; slot < 32; slot++) {
            Checks.due("sum(" + slot + ")", x.sum(slot), 0);
            Checks.due("read of slot " + slot, x.read(0, slot, 0), Names.STATE);
        }
    }

    private static void zeroBytes() {
        Checks.due("all bytes", Counted.slots(Counted::new), "\0".repeat(1024));
    }

    private static void nothingOfAnother() {
        Counted used = Counted.with("USED").fill(1, "too");
        used.write(0, 0, 0);
        Counted x = new Counted();
        Checks.due("about(0, 0)", x.about(0, 0), 0);
        Checks.due("about(1, 0)", x.about(1, 0), 0);
        Checks.due("slot 0", x.slot(0), "\0".repeat(32));
        x.fill(0, "new");
        x.poke(0, 0, 'N');
        Checks.due("row 0 of the other", used.text(0), "USED");
        Checks.due("slot 0 of the other", used.entry(0), "USED       ");
    }
}
