/** Promise 7: write. What short names, tails and parts are, the tests of these look at. */
public final class WriteTest {
    public static void main(String[] args) {
        Checks.sentence("A row, a name, is written from a slot on", WriteTest::fromASlotOn);
        Checks.sentence("if it is a short name as shown and tail is 0, an entry alone", WriteTest::entryAlone);
        Checks.sentence("else its parts, and an entry with the short name tailed by tail", WriteTest::partsAndEntry);
        Checks.sentence("All else of these slots becomes 0.", WriteTest::elseBecomesZero);
        Checks.sentence("of these slots", WriteTest::otherSlotsStay);
        Checks.sentence("How many slots.", WriteTest::howMany);
        Checks.sentence("IllegalArgumentException: there is no such row", WriteTest::noRow);
        Checks.sentence("it is no name", WriteTest::noName);
        Checks.sentence("tail is not 0 .. 9999", WriteTest::noTail);
        Checks.sentence("or it is 0 and the row is no short name", WriteTest::noShortName);
        Checks.sentence("IndexOutOfBoundsException: there are no so many slots from there on", WriteTest::tooFewSlots);
        Checks.sentence("there are no so many slots", WriteTest::noSlot);
        Checks.sentence("else IndexOutOfBoundsException", WriteTest::order);
        Checks.sentence("throws IllegalArgumentException, IndexOutOfBoundsException", WriteTest::refusedChangesNothing);
        Checks.finish();
    }

    private static void fromASlotOn() {
        for (int row = 0; row < 2; row++) {
            for (int slot = 0; slot < 31; slot++) {
                Counted x = new Counted().fill(row, "a name");
                Checks.due("write to " + slot, x.write(row, slot, 1), 2);
                Checks.due("byte 0 of " + slot, x.byteAt(slot, 0), 65);
                Checks.due("entry behind " + slot, x.entry(slot + 1), "ANAME~1    ");
                Checks.due("the row stays", x.text(row), "a name");
                Checks.due("the other row stays", x.about(1 - row, 0), 0);
            }
        }
    }

    private static void entryAlone() {
        String[] names = {"README.TXT", "A", "ABCDEFGH", "ABCDEFGH.IJK", "A.B", "~1.!#"};
        String[] entries = {"README  TXT", "A          ", "ABCDEFGH   ", "ABCDEFGHIJK", "A       B  ", "~1      !# "};
        for (int k = 0; k < names.length; k++) {
            String name = names[k];
            Checks.due("write of " + name, Counted.with(name).write(0, 31, 0), 1);
            String all = Counted.slots(() -> after(Counted.with(name), 0, 17, 0));
            Checks.due("all slots of " + name, all, "\0".repeat(17 * 32) + entries[k] + "\0".repeat(21 + 14 * 32));
        }
    }

    private static Counted after(Counted x, int row, int slot, int tail) {
        x.write(row, slot, tail);
        return x;
    }

    private static void partsAndEntry() {
        tailed("long name", 1, "LONGNA~1   ");
        tailed("README.TXT", 1, "README~1TXT");
        tailed("A", 9999, "A~9999     ");
        tailed("ABCDEFGH.IJK", 10, "ABCDE~10IJK");
        tailed("a name of more than thirteen units", 2, "ANAMEO~2   ");
    }

    private static void tailed(String name, int tail, String entry) {
        Counted x = Counted.with(name);
        int parts = (name.length() + 12) / 13;
        Checks.due("write of " + name, x.write(0, 3, tail), parts + 1);
        Checks.due("byte 0 of the last part", x.byteAt(3, 0), 64 + parts);
        Checks.due("first unit", x.byteAt(2 + parts, 1), name.charAt(0));
        Checks.due("entry of " + name, x.entry(3 + parts), entry);
    }

    /** Each slot's bytes are full before: of the entry eleven, of a part all are told, and the rest is 0. */
    private static void elseBecomesZero() {
        Counted x = new Counted();
        for (int slot = 0; slot < 4; slot++) {
            x.pokeText(slot, 0, "w".repeat(32));
        }
        x.fill(1, "ab");
        Checks.due("write", x.write(1, 1, 1), 2);
        Checks.due("the part", x.slot(1), "Aa\0b\0\0\0\u00ff\u00ff\u00ff\u00ff\u000f\0" + (char) Checks.sumOf("AB~1       ")
            + "\u00ff".repeat(12) + "\0\0" + "\u00ff".repeat(4));
        Checks.due("the entry", x.slot(2), "AB~1       " + "\0".repeat(21));
        x.fill(0, "AB");
        Checks.due("write of an entry alone", x.write(0, 0, 0), 1);
        Checks.due("that entry", x.slot(0), "AB         " + "\0".repeat(21));
    }

    private static void otherSlotsStay() {
        Counted x = new Counted();
        for (int slot = 0; slot < 6; slot++) {
            x.pokeText(slot, 0, "w".repeat(32));
        }
        x.fill(0, "ab");
        x.write(0, 2, 1);
        Checks.due("the slot before", x.slot(1), "w".repeat(32));
        Checks.due("the slot behind", x.slot(4), "w".repeat(32));
        x.fill(0, "AB");
        x.write(0, 5, 0);
        Checks.due("the slot before an entry alone", x.slot(4), "w".repeat(32));
    }

    private static void howMany() {
        for (int size = 1; size <= 255; size++) {
            Counted x = Counted.with("S".repeat(size));
            int parts = size / 13 + (size % 13 == 0 ? 0 : 1);
            Checks.due("slots of " + size + " with a tail", x.write(0, 11, 1), parts + 1);
            Checks.due("slots of " + size + " without", x.write(0, 11, 0), size <= 8 ? 1 : Names.ARGUMENT);
        }
    }

    private static void noRow() {
        Counted x = Counted.with("A").fill(1, "B");
        for (int row : Checks.NO_ROWS) {
            Checks.due("write of row " + row, x.write(row, 0, 0), Names.ARGUMENT);
            Checks.due("write of row " + row + " with a tail", x.write(row, 0, 1), Names.ARGUMENT);
        }
    }

    private static void noName() {
        String[] none = {"", " ", ".", "a.", "a ", "A.", "A ", "a*b", "\u0007", "a\ud800", "\uffff", "?", "x".repeat(254) + "."};
        for (String row : none) {
            for (int tail = 0; tail < 2; tail++) {
                Checks.due("write of <" + row + "> with " + tail, Counted.with(row).write(0, 0, tail), Names.ARGUMENT);
            }
        }
    }

    private static void noTail() {
        int[] wrong = {-1, -2, -9999, 10000, 10001, 65536, 99999, Integer.MIN_VALUE, Integer.MAX_VALUE};
        int[] right = {1, 9, 10, 99, 100, 999, 1000, 9998, 9999};
        String[] names = {"A", "a long name"};
        for (String name : names) {
            for (int tail : wrong) {
                Checks.due("write of " + name + " with " + tail, Counted.with(name).write(0, 0, tail), Names.ARGUMENT);
            }
            for (int tail : right) {
                Checks.due("write of " + name + " with " + tail, Counted.with(name).write(0, 0, tail), 2);
            }
        }
        Checks.due("write of A with 0", Counted.with("A").write(0, 0, 0), 1);
    }

    private static void noShortName() {
        String[] longs = {"a", ".A", "A B", "ABCDEFGHI", "ABCDEFGHI.A", "A.BCDE", "A.B.C", "A.b", "A+B", "\u00c9", "X".repeat(255)};
        for (String name : longs) {
            Checks.due("write of " + name + " with 0", Counted.with(name).write(0, 0, 0), Names.ARGUMENT);
            Checks.due("write of " + name + " with 1", Counted.with(name).write(0, 0, 1) > 1 ? 1 : 0, 1);
        }
    }

    /** Each number of parts from each slot on, and entries alone. */
    private static void tooFewSlots() {
        for (int parts = 1; parts <= 20; parts++) {
            Counted x = Counted.with("n".repeat(Math.min(13 * parts, 255)));
            for (int slot = 0; slot < 32; slot++) {
                int want = slot + parts < 32 ? parts + 1 : Names.INDEX;
                Checks.due("write of " + parts + " parts to " + slot, x.write(0, slot, 1), want);
            }
        }
        Counted x = Counted.with("ALONE");
        for (int slot = 0; slot < 32; slot++) {
            Checks.due("write of an entry alone to " + slot, x.write(0, slot, 0), 1);
        }
        Checks.due("write of an entry alone to 32", x.write(0, 32, 0), Names.INDEX);
    }

    private static void noSlot() {
        String[] names = {"A", "n".repeat(255)};
        for (String name : names) {
            Counted x = Counted.with(name);
            for (int slot : Checks.NO_SLOTS) {
                Checks.due("write to " + slot, x.write(0, slot, 1), Names.INDEX);
            }
            for (int slot = Integer.MAX_VALUE - 21; slot > 0; slot++) {
                Checks.due("write to " + slot, x.write(0, slot, 1), Names.INDEX);
            }
            for (int slot = -21; slot < 0; slot++) {
                Checks.due("write to " + slot, x.write(0, slot, 1), Names.INDEX);
            }
        }
        Counted x = Counted.with("A");
        for (int slot : Checks.NO_SLOTS) {
            Checks.due("write of an entry alone to " + slot, x.write(0, slot, 0), Names.INDEX);
        }
    }

    private static void order() {
        int[] slots = {-1, 31, 32, Integer.MAX_VALUE};
        for (int slot : slots) {
            Counted x = Counted.with("a");
            Checks.due("no row, too few slots", x.write(2, slot, 1), Names.ARGUMENT);
            Checks.due("no name, too few slots", x.write(1, slot, 1), Names.ARGUMENT);
            Checks.due("no tail, too few slots", x.write(0, slot, 10000), Names.ARGUMENT);
            Checks.due("no short name, too few slots", x.write(0, slot, 0), Names.ARGUMENT);
            Checks.due("too few slots alone", x.write(0, slot, 1), Names.INDEX);
        }
    }

    private static Counted refused() {
        Counted x = Counted.with("a name").fill(1, "none?");
        x.write(2, 0, 1);
        x.write(1, 1, 1);
        x.write(0, 2, 10000);
        x.write(0, 3, 0);
        x.write(0, 31, 1);
        x.write(0, -1, 1);
        return x;
    }

    private static void refusedChangesNothing() {
        Checks.due("row 0", refused().text(0), "a name");
        Checks.due("row 1", refused().text(1), "none?");
        Checks.due("all slots", Counted.slots(WriteTest::refused), "\0".repeat(1024));
        Checks.due("the next write", refused().write(0, 30, 1), 2);
    }
}
