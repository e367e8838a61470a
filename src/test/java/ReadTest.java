/** Promise 8: read, of what was written and of what was poked. */
public final class ReadTest {
    private static final int[] PLACES = {1, 3, 5, 7, 9, 14, 16, 18, 20, 22, 24, 28, 30};

    public static void main(String[] args) {
        Checks.sentence("The name of the entry in a slot is read into a row", ReadTest::intoARow);
        Checks.sentence("which is emptied in any case", ReadTest::emptied);
        Checks.sentence("(if there is one)", ReadTest::othersStay);
        Checks.sentence("with parts 0 its short name as shown", ReadTest::shown);
        Checks.sentence("else it is that of so many parts", ReadTest::everySize);
        Checks.sentence("of so many parts", ReadTest::tooFewOrMany);
        Checks.sentence("which stand directly before", ReadTest::directlyBefore);
        Checks.sentence("How many units.", ReadTest::howMany);
        Checks.sentence("IllegalArgumentException: there is no such row", ReadTest::noRow);
        Checks.sentence("or parts is not 0 .. 20", ReadTest::noParts);
        Checks.sentence("IndexOutOfBoundsException: there is no such slot", ReadTest::noSlot);
        Checks.sentence("or there are no so many before it", ReadTest::tooFewBefore);
        Checks.sentence("else IndexOutOfBoundsException", ReadTest::argumentFirst);
        Checks.sentence("else IllegalStateException", ReadTest::indexBeforeState);
        Checks.sentence("they are not as told", ReadTest::everyBit);
        Checks.sentence("at byte 0 n, and 64 more if it is the last one", ReadTest::numbers);
        Checks.sentence("11: 15; 12: 0; 13: the sum; 26 and 27: 0", ReadTest::fixedBytes);
        Checks.sentence("behind its last unit (if there is room) a 0, then 65535", ReadTest::fills);
        Checks.sentence("A name has as many parts as a thirteenth of its units (up).", ReadTest::emptyLastPart);
        Checks.sentence("A NAME has 1 to 255 units", ReadTest::tooManyUnits);
        Checks.sentence("none is below 32, one of", ReadTest::noName);
        Checks.sentence("the last one is neither a blank nor a point", ReadTest::lastOne);
        Checks.sentence("(also the entry's eleven bytes)", ReadTest::entryBytes);
        Checks.sentence("a slot whose first eleven bytes are the short name", ReadTest::otherEntry);
        Checks.sentence("throws IllegalArgumentException, IndexOutOfBoundsException, IllegalStateException", ReadTest::slotsStay);
        Checks.finish();
    }

    /** The name in row 0 and, from slot 0 on, in slots. */
    private static Counted written(String name) {
        Counted x = Counted.with(name);
        x.write(0, 0, 1);
        return x;
    }

    private static void pokeUnit(Counted x, int slot, int i, int u) {
        x.poke(slot, PLACES[i], u);
        x.poke(slot, PLACES[i] + 1, u >> 8);
    }

    private static void intoARow() {
        for (int row = 0; row < 2; row++) {
            Counted x = new Counted().fill(row, "A.long name").fill(1 - row, "other");
            x.write(row, 29, 7);
            Checks.due("read of the part", x.read(row, 30, 1), 11);
            Checks.due("row " + row, x.text(row), "A.long name");
            Checks.due("read of the entry alone", x.read(row, 30, 0), 7);
            Checks.due("row " + row, x.text(row), "A~7.LON");
            Checks.due("the other row stays", x.text(1 - row), "other");
            Checks.due("read into the other row", x.read(1 - row, 30, 1), 11);
            Checks.due("the other row", x.text(1 - row), "A.long name");
        }
    }

    private static void emptied() {
        int[][] refused = {{1, -1}, {1, 21}, {-1, 0}, {32, 0}, {0, 1}, {31, 0}, {31, 20}, {2, 1}, {1, Integer.MAX_VALUE},
            {Integer.MIN_VALUE, 20}};
        for (int row = 0; row < 2; row++) {
            for (int[] call : refused) {
                Counted x = new Counted().fill(row, "some name");
                x.write(row, 0, 1);
                Checks.due("read of slot " + call[0] + ", parts " + call[1], x.read(row, call[0], call[1]) < 0 ? 1 : 0, 1);
                Checks.due("the row after slot " + call[0] + ", parts " + call[1], x.about(row, 0), 0);
                Checks.due("its first byte", x.letter(row, 0), -1);
            }
            Counted other = new Counted().fill(row, "some name");
            other.write(row, 0, 1);
            other.poke(0, 13, 0);
            Checks.due("read of a part with another sum", other.read(row, 1, 1), Names.STATE);
            Checks.due("the row after it", other.about(row, 0), 0);
            Counted x = new Counted().fill(row, "ab");
            x.write(row, 0, 1);
            x.fill(row, "longer than before");
            Checks.due("a read that is not refused", x.read(row, 1, 1), 2);
            Checks.due("the row", x.text(row), "ab");
        }
    }

    private static void othersStay() {
        Counted x = written("some name").fill(1, "other");
        for (int row : Checks.NO_ROWS) {
            x.read(row, 1, 1);
            x.read(row, 1, 0);
            x.read(row, 99, 99);
        }
        Checks.due("row 0", x.text(0), "some name");
        Checks.due("row 1", x.text(1), "other");
        x.read(1, 31, 0);
        Checks.due("row 0 after a refused read into row 1", x.text(0), "some name");
    }

    private static void shown() {
        String[] entries = {"README  TXT", "A          ", "ABCDEFGHIJK", "A       B  ", "A~9999  1  ", "!#$%&'()-@^", "_`{}~   ~~ "};
        String[] names = {"README.TXT", "A", "ABCDEFGH.IJK", "A.B", "A~9999.1", "!#$%&'().-@^", "_`{}~.~~"};
        int[] slots = {0, 31};
        for (int k = 0; k < entries.length; k++) {
            for (int slot : slots) {
                Counted x = Counted.with("old row").pokeText(slot, 0, entries[k] + "\u00ff".repeat(21));
                Checks.due("read of " + entries[k], x.read(0, slot, 0), names[k].length());
                Checks.due("row of " + entries[k], x.text(0), names[k]);
            }
        }
        Counted x = written("with a part");
        Checks.due("the part before it does not count", x.read(1, 1, 0), 8);
        Checks.due("row 1", x.text(1), "WITHAP~1");
        x.poke(0, 13, 0);
        Checks.due("nor does it count if it is not as told", x.read(1, 1, 0), 8);
    }

    private static void everySize() {
        for (int size = 1; size <= 255; size++) {
            Counted x = written("\u4e2d".repeat(size - 1) + "e");
            int parts = (size + 12) / 13;
            Checks.due("read of " + size, x.read(1, parts, parts), size);
            Checks.due("alike of " + size, x.alike(), 1);
        }
        Counted x = Counted.with("n".repeat(255));
        x.write(0, 11, 9999);
        Checks.due("20 parts before slot 31", x.read(1, 31, 20), 255);
        Checks.due("alike", x.alike(), 1);
    }

    private static void tooFewOrMany() {
        for (int parts = 1; parts <= 20; parts++) {
            Counted x = Counted.with("p".repeat(13 * parts - 5));
            x.write(0, 31 - parts, 1);
            for (int asked = 1; asked <= 20; asked++) {
                int want = asked == parts ? 13 * parts - 5 : Names.STATE;
                Checks.due("read of " + asked + " of " + parts + " parts", x.read(1, 31, asked), want);
            }
        }
    }

    private static void directlyBefore() {
        Counted x = written("a name of two parts");
        x.pokeText(3, 0, x.entry(2));
        Checks.due("right before", x.read(1, 2, 2), 19);
        Checks.due("a slot between", x.read(1, 3, 2), Names.STATE);
        Checks.due("a slot between, one more", x.read(1, 3, 3), Names.STATE);
        Checks.due("a part for an entry", x.read(1, 1, 0), Names.STATE);
        Checks.due("a part for an entry, with one before", x.read(1, 1, 1), Names.STATE);
        Counted y = written("a name of two parts");
        String last = y.slot(0);
        String first = y.slot(1);
        y.pokeText(0, 0, first).pokeText(1, 0, last);
        Checks.due("the first part first", y.read(1, 2, 2), Names.STATE);
    }

    private static void howMany() {
        Counted x = written("ninechars");
        Checks.due("units of the part", x.read(1, 1, 1), 9);
        Checks.due("how many there are", x.about(1, 0), 9);
        Checks.due("units of the short name", x.read(1, 1, 0), 8);
        Checks.due("how many there are", x.about(1, 0), 8);
        Counted y = Counted.with("\u4e2d\u4e2d");
        y.write(0, 0, 1);
        Checks.due("units, not bytes", y.read(1, 1, 1), 2);
        Counted z = new Counted().pokeText(0, 0, "ABCDEFGHIJK");
        Checks.due("the longest short name", z.read(0, 0, 0), 12);
        z.pokeText(0, 0, "A          ");
        Checks.due("the shortest short name", z.read(0, 0, 0), 1);
    }

    private static void noRow() {
        for (int row : Checks.NO_ROWS) {
            Checks.due("read into row " + row, written("kept").read(row, 1, 1), Names.ARGUMENT);
            Checks.due("read into row " + row + " without parts", written("kept").read(row, 1, 0), Names.ARGUMENT);
        }
    }

    private static void noParts() {
        int[] wrong = {-1, -2, -20, 21, 22, 256, 65536, Integer.MIN_VALUE, Integer.MAX_VALUE};
        for (int parts : wrong) {
            for (int row = 0; row < 2; row++) {
                Checks.due("read of " + parts + " parts", written("kept").read(row, 1, parts), Names.ARGUMENT);
                Checks.due("read of " + parts + " parts before 31", written("kept").read(row, 31, parts), Names.ARGUMENT);
            }
        }
        Checks.due("read of 0 parts", written("kept").read(0, 1, 0), 6);
        Checks.due("read of 20 parts", written("n".repeat(255)).read(0, 20, 20), 255);
    }

    private static void noSlot() {
        for (int slot : Checks.NO_SLOTS) {
            int[] parts = {0, 1, 20};
            for (int p : parts) {
                Checks.due("read of slot " + slot + " with " + p, written("kept").read(0, slot, p), Names.INDEX);
            }
        }
        Counted x = Counted.with("EDGE");
        x.write(0, 0, 0);
        x.write(0, 31, 0);
        Checks.due("read of slot 0", x.read(1, 0, 0), 4);
        Checks.due("read of slot 31", x.read(1, 31, 0), 4);
    }

    private static void tooFewBefore() {
        for (int slot = 0; slot < 32; slot++) {
            Counted x = new Counted();
            for (int parts = 0; parts <= 20; parts++) {
                int want = parts > slot ? Names.INDEX : Names.STATE;
                Checks.due("read of slot " + slot + " with " + parts, x.read(0, slot, parts), want);
            }
        }
        Checks.due("as many as needed", written("x".repeat(14)).read(1, 2, 2), 14);
    }

    private static void argumentFirst() {
        Counted x = written("kept");
        Checks.due("no row, no slot", x.read(2, 32, 1), Names.ARGUMENT);
        Checks.due("no row, too few before", x.read(-1, 0, 1), Names.ARGUMENT);
        Checks.due("no row, empty slot", x.read(2, 9, 0), Names.ARGUMENT);
        Checks.due("no parts, no slot", x.read(1, 32, 21), Names.ARGUMENT);
        Checks.due("no parts, no slot", x.read(1, -1, -1), Names.ARGUMENT);
        Checks.due("21 parts, too few before", x.read(1, 5, 21), Names.ARGUMENT);
        Checks.due("-1 parts, empty slot", x.read(1, 9, -1), Names.ARGUMENT);
    }

    private static void indexBeforeState() {
        Counted x = written("kept");
        Checks.due("too few before an empty slot", x.read(1, 5, 6), Names.INDEX);
        Checks.due("an empty slot", x.read(1, 5, 5), Names.STATE);
        Checks.due("an empty slot without parts", x.read(1, 5, 0), Names.STATE);
    }

    /** Whatever bit of the short name or of a part changes, but for another unit that may stand there, read refuses. */
    private static void everyBit() {
        String name = "The quick brown fo.x y";
        for (int slot = 0; slot < 3; slot++) {
            for (int at = 0; at < 32; at++) {
                boolean unit = at >= 1 && at <= 10 || at >= 14 && at <= 25 || at >= 28;
                for (int bit = 0; bit < 8; bit++) {
                    Counted x = written(name);
                    x.poke(slot, at, x.byteAt(slot, at) ^ 1 << bit);
                    int got = x.read(1, 2, 2);
                    if (slot == 2) {
                        Checks.due("byte " + at + " of the entry, bit " + bit, got, at < 11 ? Names.STATE : 22);
                    } else if (!unit || slot == 0 && at >= 22) {
                        Checks.due("byte " + at + " of slot " + slot + ", bit " + bit, got, Names.STATE);
                    }
                    Checks.due("the row", x.about(1, 0), got == Names.STATE ? 0 : 22);
                }
            }
        }
        Counted x = written(name);
        pokeUnit(x, 1, 0, 't');
        Checks.due("another unit", x.read(1, 2, 2), 22);
        Checks.due("row 1", x.text(1), "the quick brown fo.x y");
    }

    private static int readWith(String name, int slot, int at, int value) {
        Counted x = written(name);
        x.poke(slot, at, value);
        int parts = (name.length() + 12) / 13;
        return x.read(1, parts, parts);
    }

    private static void numbers() {
        String[] names = {"one", "a name of two parts", "n".repeat(255)};
        for (String name : names) {
            int parts = (name.length() + 12) / 13;
            for (int value = 0; value < 256; value++) {
                int last = value == 64 + parts ? name.length() : Names.STATE;
                Checks.due("byte 0 of the last part is " + value, readWith(name, 0, 0, value), last);
                int first = value == (parts == 1 ? 65 : 1) ? name.length() : Names.STATE;
                Checks.due("byte 0 of part 1 is " + value, readWith(name, parts - 1, 0, value), first);
            }
        }
    }

    private static void fixedBytes() {
        String name = "a name of two parts";
        int[] places = {11, 12, 13, 26, 27};
        int[] rights = {15, 0, Checks.sumOf("ANAMEO~1   "), 0, 0};
        for (int k = 0; k < places.length; k++) {
            for (int value = 0; value < 256; value++) {
                for (int slot = 0; slot < 2; slot++) {
                    int want = value == rights[k] ? name.length() : Names.STATE;
                    Checks.due("byte " + places[k] + " of slot " + slot + " is " + value, readWith(name, slot, places[k], value), want);
                }
            }
        }
    }

    private static int readWithUnit(int i, int u) {
        Counted x = written("ninechars");
        pokeUnit(x, 0, i, u);
        return x.read(1, 1, 1);
    }

    private static void fills() {
        Checks.due("no 0 behind the last unit", readWithUnit(9, 65535), Names.STATE);
        Checks.due("a unit more without its 0", readWithUnit(9, 'x'), Names.STATE);
        for (int i = 10; i < 13; i++) {
            int[] wrong = {0, 'x', 255, 65280, 65534};
            for (int u : wrong) {
                Checks.due("behind the 0 a " + u + " at " + i, readWithUnit(i, u), Names.STATE);
            }
        }
        Checks.due("a 0 within", readWithUnit(4, 0), Names.STATE);
        Checks.due("a 0 at first", readWithUnit(0, 0), Names.STATE);
        Checks.due("65535 within", readWithUnit(4, 65535), Names.STATE);
        Counted x = written("ninechars");
        pokeUnit(x, 0, 9, 'x');
        pokeUnit(x, 0, 10, 0);
        Checks.due("a unit more with its 0", x.read(1, 1, 1), 10);
        Counted y = written("twelve units");
        Checks.due("a 0 and no room behind it", y.read(1, 1, 1), 12);
        pokeUnit(y, 0, 12, 65535);
        Checks.due("65535 in place of that 0", y.read(1, 1, 1), Names.STATE);
        pokeUnit(y, 0, 12, '!');
        Checks.due("thirteen units need no 0", y.read(1, 1, 1), 13);
    }

    private static void emptyLastPart() {
        Counted x = written("thirteen-and-1");
        Checks.due("two parts", x.read(1, 2, 2), 14);
        pokeUnit(x, 0, 0, 0);
        pokeUnit(x, 0, 1, 65535);
        Checks.due("a second part without units", x.read(1, 2, 2), Names.STATE);
        x.poke(1, 0, 65);
        Checks.due("the first part is now the last", x.read(1, 2, 1), 13);
        Counted y = written("a");
        pokeUnit(y, 0, 0, 0);
        pokeUnit(y, 0, 1, 65535);
        Checks.due("a part without units", y.read(1, 1, 1), Names.STATE);
        Counted z = written("two parts, then one");
        pokeUnit(z, 1, 12, 0);
        Checks.due("a first part that is not full", z.read(1, 2, 2), Names.STATE);
        moreThanTheLast();
    }

    /** Part 1 is marked as the last one, and what stands before it goes on as if there were a part 2 with no units. */
    private static void moreThanTheLast() {
        String[] names = {"thirteen unit", "twelve units"};
        for (String name : names) {
            Counted x = Counted.with(name);
            x.write(0, 1, 1);
            x.pokeText(0, 0, x.slot(1));
            x.poke(0, 0, 2);
            pokeUnit(x, 0, 0, name.length() == 13 ? 0 : 65535);
            for (int i = 1; i < 13; i++) {
                pokeUnit(x, 0, i, 65535);
            }
            Checks.due("one part of " + name, x.read(1, 2, 1), name.length());
            Checks.due("two parts of " + name, x.read(1, 2, 2), Names.STATE);
            x.poke(0, 0, 66);
            Checks.due("two last parts of " + name, x.read(1, 2, 2), Names.STATE);
        }
    }

    private static void tooManyUnits() {
        Counted x = written("n".repeat(255));
        Checks.due("255 units", x.read(1, 20, 20), 255);
        pokeUnit(x, 0, 8, 'n');
        Checks.due("256 units without their 0", x.read(1, 20, 20), Names.STATE);
        pokeUnit(x, 0, 9, 0);
        Checks.due("256 units", x.read(1, 20, 20), Names.STATE);
        for (int i = 9; i < 13; i++) {
            pokeUnit(x, 0, i, 'n');
        }
        Checks.due("260 units", x.read(1, 20, 20), Names.STATE);
        Checks.due("the row", x.about(1, 0), 0);
        Checks.due("254 units", written("n".repeat(254)).read(1, 20, 20), 254);
    }

    private static void noName() {
        int[] bad = {0, 1, 31, '"', '*', '/', ':', '<', '>', '?', '\\', '|', 127, 55296, 57343, 65534, 65535};
        int[] good = {32, 33, '.', 'a', 126, 128, 256, 55295, 57344, 65533};
        int[] places = {0, 4, 5, 7};
        for (int i : places) {
            for (int u : bad) {
                Checks.due("unit " + u + " at " + i, readWithUnit(i, u), Names.STATE);
            }
            for (int u : good) {
                Checks.due("unit " + u + " at " + i, readWithUnit(i, u), 9);
            }
        }
    }

    private static void lastOne() {
        int[] ends = {' ', '.', '?'};
        for (int u : ends) {
            Checks.due("unit " + u + " last", readWithUnit(8, u), Names.STATE);
        }
        Counted x = written("thirteen-and-1");
        pokeUnit(x, 0, 0, '.');
        Checks.due("a point last, in a second part", x.read(1, 2, 2), Names.STATE);
        pokeUnit(x, 0, 0, '2');
        pokeUnit(x, 1, 12, '.');
        Checks.due("a point at the end of the first part", x.read(1, 2, 2), 14);
    }

    /** The part has the entry's sum, so that the entry's bytes alone are wrong. */
    private static void entryBytes() {
        String[] wrong = {" BCDEFGHIJK", "           ", "        TXT", "A B        ", "A        B ", "A       B C", "A         C",
            "a          ", "A       b  ", "A.         ", "A       .  ", "A+         ", "A\u0000         ", "\u00e9          ",
            "A       \u007f  ", "AB      C\0 ", "A*         ", "A       C/ ", "A\"         ", "\0".repeat(11), "\u00ff".repeat(11)};
        for (String entry : wrong) {
            Counted x = written("some name").pokeText(1, 0, entry);
            x.poke(0, 13, Checks.sumOf(entry));
            Checks.due("read of <" + entry + "> with a part", x.read(1, 1, 1), Names.STATE);
            Checks.due("the row", x.about(1, 0), 0);
            Checks.due("read of <" + entry + "> without", x.read(0, 1, 0), Names.STATE);
            Checks.due("the row", x.about(0, 0), 0);
        }
    }

    /** Any short name will do for the entry, as long as the parts have its sum. */
    private static void otherEntry() {
        Counted x = written("some name").pokeText(1, 0, "OTHER   TXT");
        Checks.due("another sum", x.read(1, 1, 1), Names.STATE);
        x.poke(0, 13, Checks.sumOf("OTHER   TXT"));
        Checks.due("the same sum", x.read(1, 1, 1), 9);
        x.pokeText(1, 11, "\u00ff".repeat(21));
        Checks.due("bytes behind the eleven do not count", x.read(1, 1, 1), 9);
    }

    private static Counted afterReads() {
        Counted x = written("two parts, then one");
        x.read(1, 2, 2);
        x.read(1, 2, 1);
        x.read(0, 2, 0);
        x.read(0, 9, 0);
        x.read(2, 2, 2);
        x.read(0, 40, 2);
        return x;
    }

    private static void slotsStay() {
        String before = Counted.slots(() -> written("two parts, then one"));
        Checks.due("all slots after reads", Counted.slots(ReadTest::afterReads), before);
    }
}
