/** Terms: the eleven bytes of a short name, how it is shown, and which rows are one as shown. */
public final class ShortNameTest {
    public static void main(String[] args) {
        Checks.sentence("eleven bytes, 8 and 3, each perhaps with blanks at its end alone", ShortNameTest::blanks);
        Checks.sentence("the first one is no blank", ShortNameTest::firstNoBlank);
        Checks.sentence("others are A .. Z, 0 .. 9 or one of ! # $ % & ' ( ) - @ ^ _ ` { } ~ .", ShortNameTest::bytes);
        Checks.sentence("SHOWN: the 8 without blanks", ShortNameTest::shownBase);
        Checks.sentence("and if the 3 are not blank, a point and these without blanks", ShortNameTest::shownExtension);
        Checks.sentence("1 to 8 characters", ShortNameTest::baseSizes);
        Checks.sentence("perhaps a point and 1 to 3", ShortNameTest::extensionSizes);
        Checks.sentence("of those", ShortNameTest::everyCharacter);
        Checks.sentence("A row that is a short name as shown (1 to 8 characters of those, perhaps a point and 1 to 3) becomes that short name.",
            ShortNameTest::becomes);
        Checks.finish();
    }

    private static Counted withEntry(String entry) {
        return Counted.with("old").pokeText(9, 0, entry);
    }

    /** Each of the eleven bytes is a blank or not: all 2048 kinds. */
    private static void blanks() {
        for (int kind = 0; kind < 2048; kind++) {
            StringBuilder entry = new StringBuilder();
            for (int at = 0; at < 11; at++) {
                entry.append((kind >> at & 1) == 1 ? (char) ('A' + at) : ' ');
            }
            String base = entry.substring(0, 8).stripTrailing();
            String end = entry.substring(8).stripTrailing();
            boolean good = !base.isEmpty() && !base.contains(" ") && !end.contains(" ");
            int size = end.isEmpty() ? base.length() : base.length() + 1 + end.length();
            Checks.due("read of <" + entry + ">", withEntry(entry.toString()).read(0, 9, 0), good ? size : Names.STATE);
        }
    }

    private static void firstNoBlank() {
        String[] wrong = {"           ", " BCDEFGHIJK", "        TXT", " A         ", "       A   "};
        for (String entry : wrong) {
            Checks.due("read of <" + entry + ">", withEntry(entry).read(0, 9, 0), Names.STATE);
        }
        Checks.due("read of <A          >", withEntry("A          ").read(0, 9, 0), 1);
    }

    /** Each byte in each of the eleven places, with all before it filled and blanks behind it. */
    private static void bytes() {
        for (int value = 0; value < 256; value++) {
            for (int at = 0; at < 11; at++) {
                String full = "ABCDEFGH".substring(0, Math.min(at, 8)) + "IJ".substring(0, Math.max(at - 8, 0));
                String entry = Checks.padded(full + (char) value, 11);
                int size = at < 8 ? at + 1 : at + 2;
                int blank = at == 0 ? Names.STATE : at == 8 ? 8 : size - 1;
                int want = Checks.inShortName(value) ? size : value == ' ' ? blank : Names.STATE;
                Checks.due("read with " + value + " at " + at, withEntry(entry).read(0, 9, 0), want);
            }
        }
    }

    private static void shownBase() {
        for (int size = 1; size <= 8; size++) {
            String base = "STUVWXYZ".substring(0, size);
            shown(Checks.padded(base, 11), base);
        }
        shown("!#$%&'()   ", "!#$%&'()");
        shown("-@^_`{}~   ", "-@^_`{}~");
        shown("0          ", "0");
    }

    private static void shownExtension() {
        for (int size = 1; size <= 8; size++) {
            for (int behind = 1; behind <= 3; behind++) {
                String base = "STUVWXYZ".substring(0, size);
                String end = "9~A".substring(0, behind);
                shown(Checks.padded(Checks.padded(base, 8) + end, 11), base + "." + end);
            }
        }
    }

    private static void shown(String entry, String name) {
        Counted x = withEntry(entry);
        Checks.due("read of <" + entry + ">", x.read(0, 9, 0), name.length());
        Checks.due("row of <" + entry + ">", x.text(0), name);
        Checks.due("the row is a short name as shown", x.about(0, 2), 1);
    }

    private static void isShort(String row, boolean want) {
        Counted x = Counted.with(row);
        Checks.due("about <" + row + ">", x.about(0, 2), want ? 1 : 0);
        Checks.due("write of <" + row + ">", x.write(0, 0, 0), want ? 1 : Names.ARGUMENT);
    }

    private static void baseSizes() {
        for (int size = 0; size <= 13; size++) {
            isShort("A".repeat(size), size >= 1 && size <= 8);
            isShort("A".repeat(size) + ".B", size >= 1 && size <= 8);
        }
        isShort("A".repeat(255), false);
        isShort("", false);
        isShort(".", false);
    }

    private static void extensionSizes() {
        for (int size = 0; size <= 9; size++) {
            isShort("A." + "B".repeat(size), size >= 1 && size <= 3);
            isShort("ABCDEFGH." + "B".repeat(size), size >= 1 && size <= 3);
        }
        String[] none = {"A.B.C", "A..B", "A..", "..A", ".A.B", "A.B."};
        for (String row : none) {
            isShort(row, false);
        }
    }

    private static void everyCharacter() {
        for (int u = 0; u < 65536; u++) {
            Counted x = new Counted();
            x.unit(0, u);
            Checks.due("about " + u, x.about(0, 2), Checks.inShortName(u) ? 1 : 0);
            x.unit(0, '.');
            x.unit(0, 'A');
            Checks.due("about " + u + " before .A", x.about(0, 2), Checks.inShortName(u) ? 1 : 0);
            Counted y = Counted.with("A.");
            y.unit(0, u);
            Checks.due("about " + u + " behind A.", y.about(0, 2), Checks.inShortName(u) ? 1 : 0);
        }
        String[] none = {"a", "A.b", "A B", "A ", " A", "A.B ", "A. B", "A +", "A,B", "A;B", "A=B", "[A]", "A.\u0141"};
        for (String row : none) {
            isShort(row, false);
        }
    }

    private static void becomes() {
        for (int size = 1; size <= 8; size++) {
            for (int behind = 0; behind <= 3; behind++) {
                String base = "12345678".substring(0, size);
                String end = "XYZ".substring(0, behind);
                Counted x = Counted.with(behind == 0 ? base : base + "." + end);
                Checks.due("write of " + base + "." + end, x.write(0, 5, 0), 1);
                Checks.due("entry of " + base + "." + end, x.entry(5), Checks.padded(Checks.padded(base, 8) + end, 11));
                x.read(1, 5, 0);
                Checks.due("read of what was written", x.alike(), 1);
            }
        }
    }
}
