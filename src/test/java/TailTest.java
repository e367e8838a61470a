/** Terms: a name's short name tailed by a number. */
public final class TailTest {
    public static void main(String[] args) {
        Checks.sentence("BASE, of the units before the last point", TailTest::beforeLastPoint);
        Checks.sentence("of all, if there is none", TailTest::noPoint);
        Checks.sentence("or nothing before it): blanks and points go", TailTest::nothingBefore);
        Checks.sentence("blanks and points go", TailTest::blanksAndPoints);
        Checks.sentence("small letters a .. z become capitals", TailTest::capitals);
        Checks.sentence("what may not stand in a short name becomes _", TailTest::lines);
        Checks.sentence("EXTENSION likewise of the units behind the last point", TailTest::extension);
        Checks.sentence("(none, if there is none", TailTest::noExtension);
        Checks.sentence("or nothing before it), of which three stay", TailTest::pointFirst);
        Checks.sentence("of which three stay", TailTest::threeStay);
        Checks.sentence("the base's first 7 - (digits of k) characters", TailTest::digits);
        Checks.sentence("~ and k", TailTest::everyNumber);
        Checks.sentence("both with blanks behind", TailTest::blanksBehind);
        Checks.finish();
    }

    private static String tailed(String name, int tail) {
        Counted x = Counted.with(name);
        int slots = x.write(0, 0, tail);
        return slots < 2 ? "refused with " + slots : x.entry(slots - 1);
    }

    private static void due(String name, int tail, String entry) {
        Checks.due("entry of <" + name + "> with " + tail, tailed(name, tail), entry);
    }

    private static void beforeLastPoint() {
        due("readme.txt", 1, "README~1TXT");
        due("a.b.c.d", 1, "ABC~1   D  ");
        due("a.bcdefghijk.l", 1, "ABCDEF~1L  ");
        due("x.y", 1, "X~1     Y  ");
        due(".profile.d", 3, "PROFIL~3D  ");
        due("n".repeat(250) + ".html", 12, "NNNNN~12HTM");
    }

    private static void noPoint() {
        due("a", 1, "A~1        ");
        due("readme", 1, "README~1   ");
        due("a longer name", 1, "ALONGE~1   ");
        due("n".repeat(255), 1, "NNNNNN~1   ");
    }

    private static void nothingBefore() {
        due(".a", 1, "A~1        ");
        due(".profile", 1, "PROFIL~1   ");
        due(". a b", 1, "AB~1       ");
    }

    private static void blanksAndPoints() {
        due("a b c d e f g", 1, "ABCDEF~1   ");
        due("  a  b", 1, "AB~1       ");
        due("a.. .. b", 1, "A~1     B  ");
        due("a . b . c", 1, "AB~1    C  ");
        due("a.x  y  z  q", 1, "A~1     XYZ");
        due("a.  x", 1, "A~1     X  ");
        due(" .a", 1, "~1      A  ");
        due("..a", 1, "~1      A  ");
        due(". . .a", 1234, "~1234   A  ");
    }

    private static void capitals() {
        due("az", 1, "AZ~1       ");
        due("x.az", 1, "X~1     AZ ");
        due("AZaz", 1, "AZAZ~1     ");
        due("`{", 1, "`{~1       ");
        due("\u00e9\u00df\u0131", 1, "___~1      ");
        for (char c = 'a'; c <= 'z'; c++) {
            due("" + c, 1, (char) (c - 32) + "~1        ");
            due("x." + c, 1, "X~1     " + (char) (c - 32) + "  ");
        }
    }

    /** Each unit that may stand in a name, in the base and in the extension. */
    private static void lines() {
        for (int u = 33; u < 65534; u++) {
            Counted x = new Counted();
            x.unit(0, u);
            x.unit(0, '.');
            x.unit(0, u);
            if (x.about(0, 1) == 1 && u != '.') {
                int big = u >= 'a' && u <= 'z' ? u - 32 : u;
                int want = Checks.inShortName(big) ? big : '_';
                x.write(0, 0, 1);
                Checks.due("base byte of " + u, x.byteAt(1, 0), want);
                Checks.due("extension byte of " + u, x.byteAt(1, 8), want);
            }
        }
        due("a+b,c;d=[e].f,g", 1, "A_B_C_~1F_G");
        due("[]", 1, "__~1       ");
    }

    private static void extension() {
        due("a.b", 1, "A~1     B  ");
        due("a.b c", 1, "A~1     BC ");
        due("a.+~", 1, "A~1     _~ ");
        due("a.\u0161y\u00e9z", 1, "A~1     _Y_");
        due("a.b.c.defg", 1, "ABC~1   DEF");
    }

    private static void noExtension() {
        due("abc", 1, "ABC~1      ");
        due("abcdefghijkl", 1, "ABCDEF~1   ");
    }

    private static void pointFirst() {
        due(".txt", 1, "TXT~1      ");
        due(".abcdefghi", 9999, "ABC~9999   ");
    }

    private static void threeStay() {
        due("a.1", 1, "A~1     1  ");
        due("a.12", 1, "A~1     12 ");
        due("a.123", 1, "A~1     123");
        due("a.1234", 1, "A~1     123");
        due("a. 1 2 3 4", 1, "A~1     123");
        due("a." + "x".repeat(253), 1, "A~1     XXX");
    }

    private static void digits() {
        int[] tails = {1, 9, 10, 99, 100, 999, 1000, 9999};
        for (int tail : tails) {
            for (int size = 0; size <= 9; size++) {
                String base = "ABCDEFGHI".substring(0, size);
                int most = 7 - String.valueOf(tail).length();
                String eight = Checks.padded(base.substring(0, Math.min(size, most)) + "~" + tail, 8);
                due(size == 0 ? " .Q" : base + ".Q", tail, eight + "Q  ");
            }
        }
    }

    private static void everyNumber() {
        for (int tail = 1; tail <= 9999; tail++) {
            int most = 7 - String.valueOf(tail).length();
            due("a long name", tail, "ALONGNAME".substring(0, most) + "~" + tail + "   ");
        }
        due("~~~~~~~~", 1, "~~~~~~~1   ");
    }

    private static void blanksBehind() {
        due("a", 1, "A~1        ");
        due("ab.c", 10, "AB~10   C  ");
        due("abcdef.gh", 1, "ABCDEF~1GH ");
        due("abcdef.ghi", 1, "ABCDEF~1GHI");
    }
}
