/** Promise 2: a unit comes to the end of a row. */
public final class UnitTest {
    public static void main(String[] args) {
        Checks.sentence("A unit comes to the end of a row: true", UnitTest::toTheEnd);
        Checks.sentence("UNITS are 0 .. 65535.", UnitTest::everyUnit);
        Checks.sentence("which may be names or not", UnitTest::namesOrNot);
        Checks.sentence("false if there is no such row", UnitTest::noRow);
        Checks.sentence("u is not 0 .. 65535", UnitTest::noUnit);
        Checks.sentence("or it has 255", UnitTest::full);
        Checks.sentence("Names of up to 255 units", UnitTest::the255th);
        Checks.finish();
    }

    private static void toTheEnd() {
        Counted x = new Counted();
        String text = "end";
        for (int i = 0; i < text.length(); i++) {
            Checks.due("unit " + i, x.unit(1, text.charAt(i)), 1);
            Checks.due("row 1", x.text(1), text.substring(0, i + 1));
        }
        Checks.due("row 0 stays", x.about(0, 0), 0);
    }

    private static void everyUnit() {
        int[] edges = {0, 1, 127, 128, 2047, 2048, 32767, 32768, 55296, 57343, 65534, 65535};
        for (int u : edges) {
            Counted x = new Counted();
            Checks.due("unit(0, " + u + ")", x.unit(0, u), 1);
            Checks.due("about(0, 0)", x.about(0, 0), 1);
        }
        Checks.due("unit 0 is kept", withUnit(0).letter(0, 0), 0);
        Checks.due("unit 65535 is kept, first byte", withUnit(65535).letter(0, 0), 239);
        Checks.due("unit 65535 is kept, last byte", withUnit(65535).letter(0, 2), 191);
    }

    private static Counted withUnit(int u) {
        Counted x = new Counted();
        x.unit(0, u);
        return x;
    }

    private static void namesOrNot() {
        String[] texts = {"*", "a.", " ", "..", "a\u0000b", "?:"};
        for (String text : texts) {
            Counted x = Counted.with(text);
            Checks.due("row of <" + text + ">", x.text(0), text);
            Checks.due("a unit more", x.unit(0, '/'), 1);
            Checks.due("row of <" + text + "/>", x.text(0), text + "/");
        }
    }

    private static void noRow() {
        Counted x = Counted.with("a").fill(1, "b");
        for (int row : Checks.NO_ROWS) {
            Checks.due("unit(" + row + ", 65)", x.unit(row, 'A'), 0);
        }
        Checks.due("row 0 stays", x.text(0), "a");
        Checks.due("row 1 stays", x.text(1), "b");
    }

    private static void noUnit() {
        int[] wrong = {-1, -65, -65535, -65536, 65536, 65536 + 65, 131072, Integer.MIN_VALUE, Integer.MAX_VALUE};
        for (int row = 0; row < 2; row++) {
            Counted x = new Counted().fill(row, "a");
            for (int u : wrong) {
                Checks.due("unit(" + row + ", " + u + ")", x.unit(row, u), 0);
            }
            Checks.due("row " + row + " stays", x.text(row), "a");
        }
    }

    private static void full() {
        for (int row = 0; row < 2; row++) {
            Counted x = new Counted().fill(row, "a".repeat(254) + "z");
            Checks.due("unit 256", x.unit(row, 'b'), 0);
            Checks.due("unit 256 again", x.unit(row, 0), 0);
            Checks.due("how many units", x.about(row, 0), 255);
            Checks.due("the first one", x.letter(row, 0), 'a');
            Checks.due("the last one", x.letter(row, 254), 'z');
            Checks.due("none behind it", x.letter(row, 255), -1);
            Checks.due("the other row has room", x.unit(1 - row, 'c'), 1);
            Checks.due("clear", x.clear(row), 255);
            Checks.due("an emptied row has room", x.unit(row, 'd'), 1);
        }
    }

    private static void the255th() {
        for (int row = 0; row < 2; row++) {
            Counted x = new Counted();
            for (int i = 0; i < 255; i++) {
                Checks.due("unit " + (i + 1), x.unit(row, 'a' + i % 26), 1);
                Checks.due("how many units", x.about(row, 0), i + 1);
            }
            Checks.due("it is a name", x.about(row, 1), 1);
        }
    }
}
