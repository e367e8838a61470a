/** Promise 6: whether the rows are alike. */
public final class AlikeTest {
    public static void main(String[] args) {
        Checks.sentence("Rows are ALIKE if their units are", AlikeTest::units);
        Checks.sentence("a .. z being taken for A .. Z", AlikeTest::letters);
        Checks.sentence("Whether the two rows are alike.", AlikeTest::sizes);
        Checks.sentence("their units", AlikeTest::emptyRows);
        Checks.sentence("the two rows", AlikeTest::nothingChanges);
        Checks.finish();
    }

    private static void look(String one, String other, boolean want) {
        Checks.due("alike() of <" + one + "> and <" + other + ">", Counted.with(one).fill(1, other).alike(), want ? 1 : 0);
        Checks.due("alike() of <" + other + "> and <" + one + ">", Counted.with(other).fill(1, one).alike(), want ? 1 : 0);
    }

    private static void units() {
        look("abc", "abc", true);
        look("abc", "abd", false);
        look("xbc", "abc", false);
        look("axc", "abc", false);
        look("abc", "cba", false);
        look("\u0061", "\u0161", false);
        look("\ud800*\u0000\uffff", "\ud800*\u0000\uffff", true);
        look("\u0000", "\uffff", false);
    }

    private static void letters() {
        look("az", "AZ", true);
        look("Name.Txt", "nAME.tXT", true);
        look("`", "@", false);
        look("{", "[", false);
        look("\u00e9", "\u00c9", false);
        look("i", "\u0130", false);
        look("k", "\u212a", false);
        for (int u = 0; u < 65536 - 32; u++) {
            Counted x = new Counted();
            x.unit(0, u);
            x.unit(1, u + 32);
            Checks.due("alike() of " + u + " and 32 more", x.alike(), u >= 'A' && u <= 'Z' ? 1 : 0);
        }
    }

    private static void sizes() {
        look("ab", "abc", false);
        look("a", "aa", false);
        look("a", "a\u0000", false);
        look("n".repeat(254), "n".repeat(253), false);
        Checks.due("254 and 255", full("n".repeat(254), "N".repeat(255)), 0);
        Checks.due("255 and 255", full("n".repeat(254) + "y", "N".repeat(254) + "Y"), 1);
        Checks.due("255, the last one unlike", full("n".repeat(254) + "y", "n".repeat(254) + "z"), 0);
    }

    /** Two full rows leave no calls for what fill asks beside them. */
    private static int full(String one, String other) {
        Counted x = new Counted();
        for (int i = 0; i < 255; i++) {
            if (i < one.length()) {
                x.unit(0, one.charAt(i));
            }
            x.unit(1, other.charAt(i));
        }
        return x.alike();
    }

    private static void emptyRows() {
        look("", "", true);
        look("a", "", false);
        look("\u0000", "", false);
        Counted x = Counted.with("abc").fill(1, "xyz");
        x.clear(0);
        Checks.due("one row emptied", x.alike(), 0);
        x.clear(1);
        Checks.due("both rows emptied", x.alike(), 1);
        x.unit(0, 'x');
        x.unit(1, 'X');
        Checks.due("rows used again", x.alike(), 1);
    }

    private static void nothingChanges() {
        Counted x = Counted.with("Row").fill(1, "rOW");
        Checks.due("alike()", x.alike(), 1);
        Checks.due("alike() again", x.alike(), 1);
        Checks.due("row 0", x.text(0), "Row");
        Checks.due("row 1", x.text(1), "rOW");
    }
}
