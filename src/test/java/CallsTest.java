/** The document's first page: an object answers for 512 calls. */
public final class CallsTest {
    public static void main(String[] args) {
        Checks.sentence("An object is used for at most 512 calls after it has been made", CallsTest::lastCalls);
        Checks.sentence("at most 512 calls", CallsTest::allOfOneKind);
        Checks.finish();
    }

    /** An object with a full row, a written name and only one call left. */
    private static Counted nearlyDone() {
        Counted x = Counted.with("n".repeat(255));
        x.write(0, 0, 1);
        x.fill(1, "N".repeat(200));
        while (x.left() > 1) {
            x.sum(20);
        }
        return x;
    }

    private static void lastCalls() {
        Checks.due("unit", nearlyDone().unit(1, 'n'), 1);
        Checks.due("unit of a full row", nearlyDone().unit(0, 'n'), 0);
        Checks.due("clear", nearlyDone().clear(0), 255);
        Checks.due("about", nearlyDone().about(1, 0), 200);
        Checks.due("letter", nearlyDone().letter(0, 254), 'n');
        Checks.due("alike", nearlyDone().alike(), 0);
        Checks.due("write", nearlyDone().write(0, 11, 9999), 21);
        Checks.due("write, refused", nearlyDone().write(0, 12, 9999), Names.INDEX);
        Checks.due("read", nearlyDone().read(1, 20, 20), 255);
        Checks.due("read, refused", nearlyDone().read(1, 19, 20), Names.INDEX);
        Checks.due("poke", nearlyDone().poke(31, 31, 1), 1);
        Checks.due("byteAt", nearlyDone().byteAt(0, 0), 84);
        Checks.due("sum", nearlyDone().sum(20), Checks.sumOf("NNNNNN~1   "));
        Checks.due("seconds", nearlyDone().seconds(33, 0), 315532800L);
    }

    private static void allOfOneKind() {
        Counted x = new Counted();
        for (int call = 1; call <= 512; call++) {
            Checks.due("poke " + call, x.poke(call % 32, call % 31, call), 1);
        }
        Counted y = new Counted();
        for (int call = 1; call <= 512; call++) {
            Checks.due("unit " + call, y.unit(call % 2, call), call <= 510 ? 1 : 0);
        }
        Counted z = new Counted();
        for (int call = 1; call <= 512; call++) {
            Checks.due("read " + call, z.read(0, 31, call % 21), Names.STATE);
        }
    }
}
