/** Promise 6: whether the rows are alike. */
public final class AlikeTest {
    public static void main(String[] args) {
        look("", "", true);
        look("a", "", false);
        look("a", "A", true);
        look("az", "AZ", true);
        look("Name.Txt", "nAME.tXT", true);
        look("ab", "abc", false);
        look("abc", "abd", false);
        look("xbc", "abc", false);
        look("`", "@", false);
        look("{", "[", false);
        look("\u00e9", "\u00c9", false);
        look("\u00e9", "\u00e9", true);
        look("\u0161", "a", false);
        look("\ud800*", "\ud800*", true);
        look("x".repeat(254) + "y", "X".repeat(254) + "Y", true);
        look("x".repeat(254) + "y", "x".repeat(254) + "z", false);
        everyPairOfNear();
        afterClear();
        Checks.finish();
    }

    private static void look(String one, String other, boolean want) {
        LongNames x = Checks.with(one);
        Checks.fill(x, 1, other);
        Checks.due("alike() of " + one + " and " + other, x.alike(), want);
        Checks.fill(x, 0, other);
        Checks.fill(x, 1, one);
        Checks.due("alike() of " + other + " and " + one, x.alike(), want);
    }

    private static void everyPairOfNear() {
        for (int u = 0; u < 65536 - 32; u++) {
            LongNames x = new LongNames();
            x.unit(0, u);
            x.unit(1, u + 32);
            Checks.due("alike() of " + u + " and 32 more", x.alike(), u >= 'A' && u <= 'Z');
        }
    }

    private static void afterClear() {
        LongNames x = Checks.with("abc");
        x.clear(0);
        Checks.due("alike() of emptied rows", x.alike(), true);
        x.unit(0, 'x');
        x.unit(1, 'X');
        Checks.due("alike() of rows used again", x.alike(), true);
    }
}
