import java.time.DateTimeException;
import java.time.LocalDate;
import java.time.LocalDateTime;
import java.time.LocalTime;
import java.time.ZoneOffset;

/** What the project's tests share: counting of wrong answers, rows from texts, and exceptions as numbers. */
final class Checks {
    static final int ARGUMENT = -1001;
    static final int INDEX = -1002;
    static final int STATE = -1003;

    private static int wrong = 0;
    private static int looked = 0;

    private Checks() {
    }

    static void due(String call, long got, long want) {
        looked++;
        if (got != want) {
            wrong++;
            System.out.println(call + " answered " + got + ", due is " + want);
        }
    }

    static void due(String call, boolean got, boolean want) {
        due(call, got ? 1 : 0, want ? 1 : 0);
    }

    static void due(String call, String got, String want) {
        looked++;
        if (!got.equals(want)) {
            wrong++;
            System.out.println(call + " answered <" + got + ">, due is <" + want + ">");
        }
    }

    static void finish() {
        System.out.println(looked + " answers looked at, " + wrong + " wrong");
        if (wrong != 0 || looked == 0) {
            System.exit(1);
        }
    }

    /** A new object whose row 0 has the text's units. */
    static LongNames with(String text) {
        LongNames x = new LongNames();
        fill(x, 0, text);
        return x;
    }

    static void fill(LongNames x, int row, String text) {
        x.clear(row);
        for (int i = 0; i < text.length(); i++) {
            due("unit of a text", x.unit(row, text.charAt(i)), true);
        }
    }

    /** The units of a row whose units all stand below 128, which letter gives back as they are. */
    static String text(LongNames x, int row) {
        StringBuilder text = new StringBuilder();
        for (int i = 0; i < x.about(row, 4); i++) {
            text.append((char) x.letter(row, i));
        }
        return text.toString();
    }

    static int write(LongNames x, int row, int slot, int tail) {
        try {
            return x.write(row, slot, tail);
        } catch (IllegalArgumentException e) {
            return only(e, IllegalArgumentException.class, ARGUMENT);
        } catch (IndexOutOfBoundsException e) {
            return only(e, IndexOutOfBoundsException.class, INDEX);
        }
    }

    static int read(LongNames x, int row, int slot, int parts) {
        try {
            return x.read(row, slot, parts);
        } catch (IllegalArgumentException e) {
            return only(e, IllegalArgumentException.class, ARGUMENT);
        } catch (IndexOutOfBoundsException e) {
            return only(e, IndexOutOfBoundsException.class, INDEX);
        } catch (IllegalStateException e) {
            return only(e, IllegalStateException.class, STATE);
        }
    }

    /** The machine's own exceptions are below those of the document, and must not pass for them. */
    private static int only(RuntimeException e, Class<?> kind, int answer) {
        if (e.getClass() != kind) {
            throw e;
        }
        return answer;
    }

    static String entry(LongNames x, int slot) {
        StringBuilder entry = new StringBuilder();
        for (int at = 0; at < 11; at++) {
            entry.append((char) x.byteAt(slot, at));
        }
        return entry.toString();
    }

    static void pokeEntry(LongNames x, int slot, String entry) {
        for (int at = 0; at < 11; at++) {
            x.poke(slot, at, entry.charAt(at));
        }
    }

    static String slots(LongNames x) {
        StringBuilder all = new StringBuilder();
        for (int slot = 0; slot < 32; slot++) {
            for (int at = 0; at < 32; at++) {
                all.append((char) x.byteAt(slot, at));
            }
        }
        return all.toString();
    }

    static int sumOf(String eleven) {
        int sum = 0;
        for (char c : eleven.toCharArray()) {
            sum = ((sum % 2 == 1 ? 128 : 0) + sum / 2 + c) % 256;
        }
        return sum;
    }

    /** Of numbers 0 .. 65535, by Java's own calendar. */
    static long secondsOf(int day, int time) {
        try {
            LocalDate date = LocalDate.of(1980 + (day >> 9), day >> 5 & 15, day & 31);
            LocalTime clock = LocalTime.of(time >> 11, time >> 5 & 63, (time & 31) * 2);
            return LocalDateTime.of(date, clock).toEpochSecond(ZoneOffset.UTC);
        } catch (DateTimeException e) {
            return -1;
        }
    }
}
