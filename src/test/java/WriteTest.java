/** Promise 7: write, with its short names, tails, parts and exceptions. */
public final class WriteTest {
    public static void main(String[] args) {
        entryAlone();
        tails();
        partBytes();
        fills();
        longest();
        elseBecomesZero();
        wrongArguments();
        tooFewSlots();
        order();
        Checks.finish();
    }

    private static void entryAlone() {
        alone("README.TXT", "README  TXT");
        alone("A", "A          ");
        alone("ABCDEFGH", "ABCDEFGH   ");
        alone("ABCDEFGH.IJK", "ABCDEFGHIJK");
        alone("A.B", "A       B  ");
        alone("~1.!#", "~1      !# ");
    }

    private static void alone(String name, String entry) {
        LongNames x = Checks.with(name);
        Checks.due("write of " + name, Checks.write(x, 0, 31, 0), 1);
        Checks.due("slots of " + name, Checks.slots(x), "\0".repeat(31 * 32) + entry + "\0".repeat(21));
        Checks.due("the row stays", Checks.text(x, 0), name);
    }

    private static void tails() {
        tailed("README.TXT", 1, "README~1TXT");
        tailed("README.TXTx", 1, "README~1TXT");
        tailed("README.TXT", 10, "READM~10TXT");
        tailed("README.TXT", 9999, "REA~9999TXT");
        tailed("README.TXT", 999, "READ~999TXT");
        tailed("README.TXT", 1000, "REA~1000TXT");
        tailed("README.TXT", 9, "README~9TXT");
        tailed("README.TXT", 99, "READM~99TXT");
        tailed("README.TXT", 100, "READ~100TXT");
        tailed("a", 1, "A~1        ");
        tailed("a.b", 2345, "A~2345  B  ");
        tailed(".a", 1, "A~1        ");
        tailed(".profile.d", 3, "PROFIL~3D  ");
        tailed("..a", 1, "~1      A  ");
        tailed(" .a", 1, "~1      A  ");
        tailed(". a b", 1, "AB~1       ");
        tailed("a.b.c.d", 1, "ABC~1   D  ");
        tailed("a b c.d e f g", 7, "ABC~7   DEF");
        tailed("a.. .. b", 1, "A~1     B  ");
        tailed("a+b,c;d=[e].f,g", 1, "A_B_C_~1F_G");
        tailed("\u00e9\u4e2d\ufffdx.\u0161y", 1, "___X~1  _Y ");
        tailed("az{`@[", 1, "AZ{`@_~1   ");
        tailed("!#$%&'.()-", 1, "!#$%&'~1()-");
        tailed("@^_`{}~.~~~~", 1, "@^_`{}~1~~~");
        tailed("0129.89", 1, "0129~1  89 ");
        tailed("x".repeat(250) + ".html", 12, "XXXXX~12HTM");
    }

    private static void tailed(String name, int tail, String entry) {
        LongNames x = Checks.with(name);
        int parts = (name.length() + 12) / 13;
        Checks.due("write of " + name + " with " + tail, Checks.write(x, 0, 3, tail), parts + 1);
        Checks.due("entry of " + name + " with " + tail, Checks.entry(x, 3 + parts), entry);
        int sum = Checks.sumOf(entry);
        for (int slot = 3; slot < 3 + parts; slot++) {
            Checks.due("sum in slot " + slot + " of " + name, x.byteAt(slot, 13), sum);
        }
    }

    /** All bytes of a name of two parts, written out. */
    private static void partBytes() {
        LongNames x = Checks.with("ABCDEFGHIJKLM\u4e2d\u00e9");
        Checks.due("write", Checks.write(x, 0, 10, 1), 3);
        int sum = Checks.sumOf("ABCDEF~1   ");
        int[] last = {66, 0x2d, 0x4e, 0xe9, 0, 0, 0, 255, 255, 255, 255, 15, 0, sum, 255, 255, 255, 255, 255, 255, 255, 255,
            255, 255, 255, 255, 0, 0, 255, 255, 255, 255};
        int[] first = {1, 'A', 0, 'B', 0, 'C', 0, 'D', 0, 'E', 0, 15, 0, sum, 'F', 0, 'G', 0, 'H', 0, 'I', 0, 'J', 0,
            'K', 0, 0, 0, 'L', 0, 'M', 0};
        for (int at = 0; at < 32; at++) {
            Checks.due("byte " + at + " of part 2", x.byteAt(10, at), last[at]);
            Checks.due("byte " + at + " of part 1", x.byteAt(11, at), first[at]);
        }
        Checks.due("byte 11 of the entry", x.byteAt(12, 11), 0);
        Checks.due("the slot before", x.byteAt(9, 0), 0);
        Checks.due("the slot behind", x.byteAt(13, 0), 0);
    }

    /** What stands behind the last unit, for each number of units in one part. */
    private static void fills() {
        int[] places = {1, 3, 5, 7, 9, 14, 16, 18, 20, 22, 24, 28, 30};
        for (int size = 1; size <= 13; size++) {
            LongNames x = Checks.with("b".repeat(size));
            Checks.due("write of " + size, Checks.write(x, 0, 0, 1), 2);
            Checks.due("number of " + size, x.byteAt(0, 0), 65);
            for (int i = 0; i < 13; i++) {
                int unit = x.byteAt(0, places[i]) + 256 * x.byteAt(0, places[i] + 1);
                int want = i < size ? 'b' : i == size ? 0 : 65535;
                Checks.due("unit " + i + " of " + size, unit, want);
            }
        }
    }

    private static void longest() {
        LongNames x = Checks.with("n".repeat(255));
        Checks.due("write of 255 from 12", Checks.write(x, 0, 12, 1), Checks.INDEX);
        Checks.due("write of 255 from 11", Checks.write(x, 0, 11, 1), 21);
        for (int slot = 11; slot < 31; slot++) {
            Checks.due("number in " + slot, x.byteAt(slot, 0), slot == 11 ? 84 : 31 - slot);
        }
        Checks.due("behind the last unit", x.byteAt(11, 20), 0);
        Checks.due("behind that", x.byteAt(11, 22), 255);
        Checks.due("the entry", Checks.entry(x, 31), "NNNNNN~1   ");
    }

    private static void elseBecomesZero() {
        LongNames x = new LongNames();
        for (int slot = 0; slot < 4; slot++) {
            for (int at = 0; at < 32; at++) {
                x.poke(slot, at, 119);
            }
        }
        Checks.fill(x, 1, "ab");
        Checks.due("write", Checks.write(x, 1, 1, 1), 2);
        Checks.due("all bytes", Checks.slots(x), "w".repeat(32) + "Aa\0b\0\0\0\u00ff\u00ff\u00ff\u00ff\u000f\0"
            + (char) Checks.sumOf("AB~1       ") + "\u00ff".repeat(12) + "\0\0" + "\u00ff".repeat(4)
            + "AB~1       " + "\0".repeat(21) + "w".repeat(32) + "\0".repeat(28 * 32));
    }

    private static void wrongArguments() {
        LongNames x = Checks.with("A");
        int[] rows = {-1, 2, Integer.MIN_VALUE, Integer.MAX_VALUE};
        for (int row : rows) {
            Checks.due("write from row " + row, Checks.write(x, row, 0, 0), Checks.ARGUMENT);
        }
        int[] tails = {-1, 10000, Integer.MIN_VALUE, Integer.MAX_VALUE};
        for (int tail : tails) {
            Checks.due("write with tail " + tail, Checks.write(x, 0, 0, tail), Checks.ARGUMENT);
        }
        String[] none = {"", "a.", "a ", "a*b", "\u0007", "a\ud800"};
        for (String row : none) {
            Checks.fill(x, 1, row);
            Checks.due("write of <" + row + ">", Checks.write(x, 1, 0, 1), Checks.ARGUMENT);
        }
        String[] longs = {"a", ".A", "A B", "ABCDEFGHI", "A.BCDE", "A.B.C"};
        for (String row : longs) {
            Checks.fill(x, 1, row);
            Checks.due("write of <" + row + "> without a tail", Checks.write(x, 1, 0, 0), Checks.ARGUMENT);
        }
        Checks.due("nothing is written", Checks.slots(x), "\0".repeat(1024));
    }

    private static void tooFewSlots() {
        LongNames x = Checks.with("A");
        int[] slots = {-1, -2, 32, 33, Integer.MIN_VALUE, Integer.MAX_VALUE, Integer.MAX_VALUE - 1};
        for (int slot : slots) {
            Checks.due("write to " + slot, Checks.write(x, 0, slot, 0), Checks.INDEX);
            Checks.due("write with a tail to " + slot, Checks.write(x, 0, slot, 1), Checks.INDEX);
        }
        Checks.due("write with a tail to 31", Checks.write(x, 0, 31, 1), Checks.INDEX);
        Checks.due("nothing is written", Checks.slots(x), "\0".repeat(1024));
        Checks.due("write with a tail to 30", Checks.write(x, 0, 30, 1), 2);
        Checks.due("write to 31", Checks.write(x, 0, 31, 0), 1);
        Checks.due("write to 0", Checks.write(x, 0, 0, 0), 1);
    }

    private static void order() {
        LongNames x = Checks.with("a");
        Checks.due("no row, no slot", Checks.write(x, 2, 32, 1), Checks.ARGUMENT);
        Checks.due("no name, no slot", Checks.write(x, 1, -1, 1), Checks.ARGUMENT);
        Checks.due("no tail, no slot", Checks.write(x, 0, 99, 10000), Checks.ARGUMENT);
        Checks.due("no short name, no slot", Checks.write(x, 0, 99, 0), Checks.ARGUMENT);
    }
}
