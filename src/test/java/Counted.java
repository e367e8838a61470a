import java.util.function.Supplier;

/**
 * A new object of LongNames whose calls are counted, because the document promises nothing after the
 * 512th: a test that asks for more is itself wrong.
 */
final class Counted implements Names {
    static final int MOST_CALLS = 512;

    private final LongNames object = new LongNames();
    private int left = MOST_CALLS;

    static Counted with(String text) {
        return new Counted().fill(0, text);
    }

    /** The row's old units go. */
    Counted fill(int row, String text) {
        if (about(row, 0) != 0) {
            clear(row);
        }
        for (int i = 0; i < text.length(); i++) {
            if (unit(row, text.charAt(i)) != 1) {
                throw new IllegalStateException("unit " + i + " of a text was refused");
            }
        }
        return this;
    }

    Counted pokeText(int slot, int at, String bytes) {
        for (int i = 0; i < bytes.length(); i++) {
            poke(slot, at + i, bytes.charAt(i));
        }
        return this;
    }

    /** The row's bytes, each as a character: of units below 128 they are the units themselves. */
    String text(int row) {
        int size = about(row, 4);
        StringBuilder text = new StringBuilder();
        for (int i = 0; i < size; i++) {
            text.append((char) letter(row, i));
        }
        return text.toString();
    }

    String bytes(int slot, int from, int to) {
        StringBuilder bytes = new StringBuilder();
        for (int at = from; at < to; at++) {
            bytes.append((char) byteAt(slot, at));
        }
        return bytes.toString();
    }

    String slot(int slot) {
        return bytes(slot, 0, 32);
    }

    String entry(int slot) {
        return bytes(slot, 0, 11);
    }

    /** All 1024 bytes need more calls than one object has: so the object is made again as often as needed. */
    static String slots(Supplier<Counted> made) {
        StringBuilder all = new StringBuilder();
        Counted x = made.get();
        for (int slot = 0; slot < 32; slot++) {
            if (x.left < 32) {
                x = made.get();
            }
            all.append(x.slot(slot));
        }
        return all.toString();
    }

    int left() {
        return left;
    }

    private LongNames next() {
        if (left == 0) {
            throw new IllegalStateException("the test asks for more than " + MOST_CALLS + " calls");
        }
        left--;
        return object;
    }

    public int unit(int row, int u) {
        return next().unit(row, u) ? 1 : 0;
    }

    public int clear(int row) {
        return next().clear(row);
    }

    public int about(int row, int what) {
        return next().about(row, what);
    }

    public int letter(int row, int i) {
        return next().letter(row, i);
    }

    public int alike() {
        return next().alike() ? 1 : 0;
    }

    public int write(int row, int slot, int tail) {
        LongNames x = next();
        try {
            return x.write(row, slot, tail);
        } catch (IllegalArgumentException e) {
            return only(e, IllegalArgumentException.class, ARGUMENT);
        } catch (IndexOutOfBoundsException e) {
            return only(e, IndexOutOfBoundsException.class, INDEX);
        }
    }

    public int read(int row, int slot, int parts) {
        LongNames x = next();
        try {
            return x.read(row, slot, parts);
        } catch (IllegalArgumentException e) {
            return only(e, IllegalArgumentException.class, ARGUMENT);
        } catch (IndexOutOfBoundsException e) {
            return only(e, IndexOutOfBoundsException.class, INDEX);
        } catch (IllegalStateException e) {
            return only(e, IllegalStateException.class, STATE);
        }
    }

    /** The machine's own exceptions are below those of the document, and must not pass for them. */
    private static int only(RuntimeException e, Class<?> kind, int answer) {
        if (e.getClass() != kind) {
            throw e;
        }
        return answer;
    }

    public int poke(int slot, int at, int value) {
        return next().poke(slot, at, value) ? 1 : 0;
    }

    public int byteAt(int slot, int at) {
        return next().byteAt(slot, at);
    }

    public int sum(int slot) {
        return next().sum(slot);
    }

    public long seconds(int day, int time) {
        return next().seconds(day, time);
    }
}
