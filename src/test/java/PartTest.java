/** Terms: the parts of a name, as write leaves them in slots that were full of other bytes. */
public final class PartTest {
    private static final int[] PLACES = {1, 3, 5, 7, 9, 14, 16, 18, 20, 22, 24, 28, 30};

    public static void main(String[] args) {
        Checks.sentence("at byte 0 n, and 64 more if it is the last one", PartTest::numbers);
        Checks.sentence("11: 15; 12: 0", PartTest::bytes11And12);
        Checks.sentence("13: the sum", PartTest::sums);
        Checks.sentence("26 and 27: 0", PartTest::bytes26And27);
        Checks.sentence("its 13 units at 1, 3, .. 9, 14, 16, .. 24, 28, 30 (two bytes each, the lower one first)", PartTest::places);
        Checks.sentence("units 13 * (n - 1) and on of the name", PartTest::unitsOfEach);
        Checks.sentence("behind its last unit (if there is room) a 0, then 65535", PartTest::fills);
        Checks.sentence("A name has as many parts as a thirteenth of its units (up).", PartTest::counts);
        Checks.sentence("They stand one behind another, the last one first, and behind part 1 the entry", PartTest::order);
        Checks.sentence("a slot whose first eleven bytes are the short name", PartTest::entry);
        Checks.finish();
    }

    private static Counted written(String name, int slot) {
        Counted x = Counted.with(name);
        Checks.due("write of " + name.length() + " units", x.write(0, slot, 1), (name.length() + 12) / 13 + 1);
        return x;
    }

    private static int unitAt(Counted x, int slot, int i) {
        return x.byteAt(slot, PLACES[i]) + 256 * x.byteAt(slot, PLACES[i] + 1);
    }

    private static void numbers() {
        for (int parts = 1; parts <= 20; parts++) {
            int[] sizes = {13 * parts - 12, Math.min(13 * parts, 255)};
            for (int size : sizes) {
                Counted x = written("n".repeat(size), 11);
                for (int slot = 11; slot < 11 + parts; slot++) {
                    int n = 11 + parts - slot;
                    Checks.due("byte 0 of part " + n + " of " + parts, x.byteAt(slot, 0), n == parts ? n + 64 : n);
                }
            }
        }
    }

    private static Counted overOldBytes(int at) {
        Counted x = new Counted();
        for (int slot = 0; slot < 32; slot++) {
            x.poke(slot, at, 255);
        }
        x.fill(0, "thirty units in all, three par");
        Checks.due("write", x.write(0, 4, 1), 4);
        return x;
    }

    private static void everyPartHas(int at, int want) {
        Counted x = overOldBytes(at);
        for (int slot = 4; slot < 7; slot++) {
            Checks.due("byte " + at + " of slot " + slot, x.byteAt(slot, at), want);
        }
        Checks.due("the slot before", x.byteAt(3, at), 255);
        Checks.due("the slot behind", x.byteAt(8, at), 255);
    }

    private static void bytes11And12() {
        everyPartHas(11, 15);
        everyPartHas(12, 0);
    }

    private static void sums() {
        everyPartHas(13, Checks.sumOf("THIRTY~1   "));
        String[] names = {"README.TXTx", "a", ".b", "n".repeat(255)};
        String[] entries = {"README~1TXT", "A~1        ", "B~1        ", "NNNNNN~1   "};
        for (int k = 0; k < names.length; k++) {
            Counted x = written(names[k], 0);
            int parts = (names[k].length() + 12) / 13;
            for (int slot = 0; slot < parts; slot++) {
                Checks.due("sum in slot " + slot, x.byteAt(slot, 13), Checks.sumOf(entries[k]));
            }
            Checks.due("sum of the entry", x.sum(parts), Checks.sumOf(entries[k]));
        }
    }

    private static void bytes26And27() {
        everyPartHas(26, 0);
        everyPartHas(27, 0);
    }

    private static void places() {
        StringBuilder name = new StringBuilder();
        for (int i = 0; i < 13; i++) {
            name.append((char) (256 * (i + 1) + 200 + i));
        }
        Counted x = written(name.toString(), 0);
        for (int i = 0; i < 13; i++) {
            Checks.due("lower byte of unit " + i, x.byteAt(0, PLACES[i]), 200 + i);
            Checks.due("upper byte of unit " + i, x.byteAt(0, PLACES[i] + 1), i + 1);
        }
        Counted y = written("\ufffd\u0100\u00ff", 0);
        Checks.due("lower byte of 65533", y.byteAt(0, 1), 253);
        Checks.due("upper byte of 65533", y.byteAt(0, 2), 255);
        Checks.due("lower byte of 256", y.byteAt(0, 3), 0);
        Checks.due("upper byte of 256", y.byteAt(0, 4), 1);
        Checks.due("lower byte of 255", y.byteAt(0, 5), 255);
        Checks.due("upper byte of 255", y.byteAt(0, 6), 0);
    }

    private static void unitsOfEach() {
        StringBuilder name = new StringBuilder();
        for (int i = 0; i < 255; i++) {
            name.append((char) (1000 + i));
        }
        int[] parts = {1, 2, 7, 8, 13, 14, 19, 20};
        for (int n : parts) {
            Counted x = written(name.toString(), 0);
            for (int i = 0; i < 13 && 13 * (n - 1) + i < 255; i++) {
                Checks.due("unit " + i + " of part " + n, unitAt(x, 20 - n, i), 1000 + 13 * (n - 1) + i);
            }
        }
    }

    private static void fills() {
        int[] sizes = {1, 2, 3, 4, 5, 6, 7, 8, 9, 10, 11, 12, 13, 14, 25, 26, 27, 38, 39, 40, 247, 248, 254, 255};
        for (int size : sizes) {
            Counted x = written("b".repeat(size), 0);
            int inLast = size - 13 * ((size - 1) / 13);
            for (int i = 0; i < 13; i++) {
                int want = i < inLast ? 'b' : i == inLast ? 0 : 65535;
                Checks.due("unit " + i + " of the last part of " + size, unitAt(x, 0, i), want);
            }
            for (int i = 0; i < 13 && size > 13; i++) {
                Checks.due("unit " + i + " of the part before it", unitAt(x, 1, i), 'b');
            }
        }
    }

    private static void counts() {
        for (int size = 1; size <= 255; size++) {
            Counted x = Counted.with("c".repeat(size));
            int parts = size / 13 + (size % 13 == 0 ? 0 : 1);
            Checks.due("slots of " + size, x.write(0, 0, 1), parts + 1);
            Checks.due("byte 0 of the last part of " + size, x.byteAt(0, 0), 64 + parts);
            Checks.due("entry of " + size, x.byteAt(parts, 0), 'C');
        }
    }

    private static void order() {
        Counted x = written("ABCDEFGHIJKLM\u4e2d\u00e9", 10);
        int sum = Checks.sumOf("ABCDEF~1   ");
        int[] last = {66, 0x2d, 0x4e, 0xe9, 0, 0, 0, 255, 255, 255, 255, 15, 0, sum, 255, 255, 255, 255, 255, 255, 255, 255,
            255, 255, 255, 255, 0, 0, 255, 255, 255, 255};
        int[] first = {1, 'A', 0, 'B', 0, 'C', 0, 'D', 0, 'E', 0, 15, 0, sum, 'F', 0, 'G', 0, 'H', 0, 'I', 0, 'J', 0,
            'K', 0, 0, 0, 'L', 0, 'M', 0};
        for (int at = 0; at < 32; at++) {
            Checks.due("byte " + at + " of part 2", x.byteAt(10, at), last[at]);
            Checks.due("byte " + at + " of part 1", x.byteAt(11, at), first[at]);
        }
        Checks.due("the entry", x.entry(12), "ABCDEF~1   ");
    }

    private static void entry() {
        Counted x = overOldBytes(11);
        Checks.due("the entry", x.entry(7), "THIRTY~1   ");
        Checks.due("the slot behind it", x.entry(8), "\0".repeat(11));
        Counted y = Counted.with("SHORT.NAM");
        y.write(0, 31, 0);
        Checks.due("the entry alone", y.entry(31), "SHORT   NAM");
    }
}
