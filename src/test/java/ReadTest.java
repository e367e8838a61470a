/** Promise 8: read, of what was written and of what was poked. */
public final class ReadTest {
    public static void main(String[] args) {
        shown();
        noShortName();
        backAgain();
        everyByteCounts();
        badUnits();
        fills();
        tooManyUnits();
        otherEntry();
        wrongArguments();
        order();
        Checks.finish();
    }

    private static void shown() {
        String[] entries = {"README  TXT", "A          ", "ABCDEFGHIJK", "A       B  ", "A~9999  1  ", "!#$%&'()-@^", "_`{}~   ~~ "};
        String[] names = {"README.TXT", "A", "ABCDEFGH.IJK", "A.B", "A~9999.1", "!#$%&'().-@^", "_`{}~.~~"};
        for (int k = 0; k < entries.length; k++) {
            LongNames x = Checks.with("old row");
            Checks.pokeEntry(x, 0, entries[k]);
            x.poke(0, 11, 255);
            x.poke(0, 31, 1);
            Checks.due("read of " + entries[k], Checks.read(x, 0, 0, 0), names[k].length());
            Checks.due("row of " + entries[k], Checks.text(x, 0), names[k]);
            Checks.due("slots stay", Checks.entry(x, 0), entries[k]);
        }
    }

    private static void noShortName() {
        String[] wrong = {" BCDEFGHIJK", "           ", "        TXT", "A B        ", "A        B ", "A       B C", "A         C",
            "a          ", "A       b  ", "A.         ", "A       .  ", "A+         ", "A\u0000         ", "\u00e9          ",
            "A       \u007f  ", "\u00e5          ", "AB      C\0 ", "A*         ", "A       C/ ", "A\"         "};
        for (String entry : wrong) {
            LongNames x = Checks.with("old");
            Checks.pokeEntry(x, 5, entry);
            Checks.due("read of <" + entry + ">", Checks.read(x, 0, 5, 0), Checks.STATE);
            Checks.due("the row of <" + entry + ">", x.about(0, 0), 0);
        }
        for (int value = 0; value < 256; value++) {
            boolean good = value < 128 && "ABCDEFGHIJKLMNOPQRSTUVWXYZ0123456789!#$%&'()-@^_`{}~".indexOf(value) >= 0;
            LongNames x = new LongNames();
            Checks.pokeEntry(x, 0, "A       B  ");
            x.poke(0, 1, value);
            Checks.due("base byte " + value, Checks.read(x, 0, 0, 0), good ? 4 : value == ' ' ? 3 : Checks.STATE);
            x.poke(0, 1, ' ');
            x.poke(0, 8, value);
            Checks.due("extension byte " + value, Checks.read(x, 0, 0, 0), good ? 3 : value == ' ' ? 1 : Checks.STATE);
        }
        Checks.due("read of an empty slot", Checks.read(new LongNames(), 0, 0, 0), Checks.STATE);
    }

    private static void backAgain() {
        for (int size = 1; size <= 255; size++) {
            LongNames x = Checks.with("\u4e2d".repeat(size - 1) + "e");
            int parts = (size + 12) / 13;
            Checks.due("write of " + size, Checks.write(x, 0, 0, size), parts + 1);
            Checks.due("read of " + size, Checks.read(x, 1, parts, parts), size);
            Checks.due("alike of " + size, x.alike(), true);
            if (parts > 1) {
                Checks.due("read of too few", Checks.read(x, 1, parts, parts - 1), Checks.STATE);
                Checks.due("the row is emptied", x.about(1, 0), 0);
            }
            if (parts < 20) {
                Checks.due("read of too many", Checks.read(x, 1, parts, parts + 1), Checks.INDEX);
            }
            Checks.due("read of the short name", Checks.read(x, 1, parts, 0), x.about(1, 0));
        }
        LongNames x = Checks.with("abc.Defgh");
        Checks.write(x, 0, 4, 1);
        Checks.due("read of a part as an entry", Checks.read(x, 1, 4, 0), Checks.STATE);
        Checks.due("read of a part too many", Checks.read(x, 1, 5, 2), Checks.STATE);
        Checks.due("read of another slot", Checks.read(x, 1, 6, 1), Checks.STATE);
        Checks.due("read into the same row", Checks.read(x, 0, 5, 1), 9);
        Checks.due("row 0", Checks.text(x, 0), "abc.Defgh");
        Checks.due("read short", Checks.read(x, 0, 5, 0), 9);
        Checks.due("row 0", Checks.text(x, 0), "ABC~1.DEF");
    }

    /** Whatever byte of a part or of the short name changes, the parts are no more those of the entry. */
    private static void everyByteCounts() {
        LongNames x = Checks.with("The quick brown fo.x y");
        int slots = Checks.write(x, 0, 2, 3);
        for (int slot = 2; slot < 2 + slots; slot++) {
            for (int at = 0; at < 32; at++) {
                boolean unit = at >= 1 && at <= 10 || at >= 14 && at <= 25 || at >= 28;
                boolean entry = slot == 1 + slots;
                for (int bit = 0; bit < 8; bit++) {
                    LongNames y = Checks.with("The quick brown fo.x y");
                    Checks.write(y, 0, 2, 3);
                    y.poke(slot, at, y.byteAt(slot, at) ^ 1 << bit);
                    int got = Checks.read(y, 1, 1 + slots, slots - 1);
                    if (entry) {
                        Checks.due("entry byte " + at, got, at < 11 ? Checks.STATE : 22);
                    } else if (!unit) {
                        Checks.due("byte " + at + " of slot " + slot + " bit " + bit, got, Checks.STATE);
                    }
                    Checks.due("the row", y.about(1, 0), got == Checks.STATE ? 0 : 22);
                }
            }
        }
        x.poke(3, 1, 't');
        Checks.due("another unit is another name", Checks.read(x, 1, 4, 2), 22);
        Checks.due("row 1", Checks.text(x, 1), "the quick brown fo.x y");
    }

    private static void badUnits() {
        int[] bad = {1, 31, '"', '*', '/', ':', '<', '>', '?', '\\', '|', 127, 55296, 57343, 65534, 65535, 0};
        int[] good = {32, 33, '.', 'a', 128, 55295, 57344, 65533, 256};
        for (int u : bad) {
            Checks.due("unit " + u + " within", readWith(5, u), Checks.STATE);
            Checks.due("unit " + u + " first", readWith(0, u), Checks.STATE);
        }
        for (int u : good) {
            Checks.due("unit " + u + " within", readWith(5, u), 9);
        }
        int[] ends = {' ', '.', '?'};
        for (int u : ends) {
            Checks.due("unit " + u + " last", readWith(8, u), Checks.STATE);
        }
    }

    private static final int[] PLACES = {1, 3, 5, 7, 9, 14, 16, 18, 20, 22, 24, 28, 30};

    private static void pokeUnit(LongNames x, int slot, int i, int u) {
        x.poke(slot, PLACES[i], u);
        x.poke(slot, PLACES[i] + 1, u >> 8);
    }

    private static int readWith(int i, int u) {
        LongNames x = Checks.with("ninechars");
        Checks.write(x, 0, 0, 1);
        pokeUnit(x, 0, i, u);
        return Checks.read(x, 1, 1, 1);
    }

    private static void fills() {
        Checks.due("no 0 behind the last unit", readWith(9, 65535), Checks.STATE);
        Checks.due("a unit behind the last unit", readWith(9, 'x'), Checks.STATE);
        Checks.due("a second 0", readWith(10, 0), Checks.STATE);
        Checks.due("65534 in the fill", readWith(12, 65534), Checks.STATE);
        Checks.due("a unit in the fill", readWith(11, 'x'), Checks.STATE);
        Checks.due("an earlier end without its fill", readWith(4, 0), Checks.STATE);
        LongNames x = Checks.with("ninechars");
        Checks.write(x, 0, 0, 1);
        pokeUnit(x, 0, 9, 'x');
        pokeUnit(x, 0, 10, 0);
        Checks.due("a unit more and a 0", Checks.read(x, 1, 1, 1), 10);
        for (int i = 9; i < 13; i++) {
            pokeUnit(x, 0, i, 'x');
        }
        Checks.due("thirteen units need no 0", Checks.read(x, 1, 1, 1), 13);
        pokeUnit(x, 0, 0, 0);
        for (int i = 1; i < 13; i++) {
            pokeUnit(x, 0, i, 65535);
        }
        Checks.due("a part without units", Checks.read(x, 1, 1, 1), Checks.STATE);
        emptyLastPart();
    }

    private static void emptyLastPart() {
        LongNames x = Checks.with("thirteen-and-1");
        Checks.write(x, 0, 0, 1);
        Checks.due("two parts", Checks.read(x, 1, 2, 2), 14);
        pokeUnit(x, 0, 0, 0);
        pokeUnit(x, 0, 1, 65535);
        Checks.due("a second part without units", Checks.read(x, 1, 2, 2), Checks.STATE);
        x.poke(1, 0, 65);
        Checks.due("the first part is now the last", Checks.read(x, 1, 2, 1), 13);
    }

    private static void tooManyUnits() {
        LongNames x = Checks.with("n".repeat(255));
        Checks.write(x, 0, 0, 1);
        Checks.due("255 units", Checks.read(x, 1, 20, 20), 255);
        pokeUnit(x, 0, 8, 'n');
        Checks.due("256 units without their 0", Checks.read(x, 1, 20, 20), Checks.STATE);
        pokeUnit(x, 0, 9, 0);
        Checks.due("256 units", Checks.read(x, 1, 20, 20), Checks.STATE);
        for (int i = 9; i < 13; i++) {
            pokeUnit(x, 0, i, 'n');
        }
        Checks.due("260 units", Checks.read(x, 1, 20, 20), Checks.STATE);
        Checks.due("the row", x.about(1, 0), 0);
        Checks.due("21 parts", Checks.read(x, 1, 21, 21), Checks.ARGUMENT);
    }

    /** Any short name will do for the entry, as long as the parts have its sum. */
    private static void otherEntry() {
        LongNames x = Checks.with("some name");
        Checks.write(x, 0, 0, 1);
        Checks.pokeEntry(x, 1, "OTHER   TXT");
        Checks.due("another sum", Checks.read(x, 1, 1, 1), Checks.STATE);
        x.poke(0, 13, x.sum(1));
        Checks.due("the same sum", Checks.read(x, 1, 1, 1), 9);
        x.poke(1, 0, 'o');
        x.poke(0, 13, x.sum(1));
        Checks.due("no short name with the same sum", Checks.read(x, 1, 1, 1), Checks.STATE);
        Checks.due("the row", x.about(1, 0), 0);
    }

    private static void wrongArguments() {
        int[] rows = {-1, 2, Integer.MIN_VALUE, Integer.MAX_VALUE};
        for (int row : rows) {
            LongNames x = written();
            Checks.due("read into row " + row, Checks.read(x, row, 1, 1), Checks.ARGUMENT);
            Checks.due("row 0 stays", Checks.text(x, 0), "kept");
        }
        int[] parts = {-1, 21, 22, Integer.MIN_VALUE, Integer.MAX_VALUE};
        for (int p : parts) {
            LongNames x = written();
            Checks.due("read of " + p + " parts", Checks.read(x, 0, 31, p), Checks.ARGUMENT);
            Checks.due("row 0 is emptied", x.about(0, 0), 0);
        }
        int[] slots = {-1, 32, 33, Integer.MIN_VALUE, Integer.MAX_VALUE};
        for (int slot : slots) {
            for (int p = 0; p <= 20; p += 10) {
                LongNames x = written();
                Checks.due("read of slot " + slot, Checks.read(x, 0, slot, p), Checks.INDEX);
                Checks.due("row 0 is emptied", x.about(0, 0), 0);
            }
        }
        for (int p = 1; p <= 20; p++) {
            LongNames x = written();
            Checks.due("read of " + p + " before " + (p - 1), Checks.read(x, 0, p - 1, p), Checks.INDEX);
            Checks.due("row 0 is emptied", x.about(0, 0), 0);
        }
    }

    private static LongNames written() {
        LongNames x = Checks.with("kept");
        Checks.write(x, 0, 0, 1);
        return x;
    }

    private static void order() {
        LongNames x = written();
        Checks.due("no row, no slot", Checks.read(x, 2, 32, 1), Checks.ARGUMENT);
        Checks.due("no parts, no slot", Checks.read(x, 1, 32, 21), Checks.ARGUMENT);
        Checks.due("too few before an empty slot", Checks.read(x, 1, 5, 6), Checks.INDEX);
        Checks.due("an empty slot", Checks.read(x, 1, 5, 5), Checks.STATE);
        Checks.due("the other row stays", Checks.text(x, 0), "kept");
    }
}
