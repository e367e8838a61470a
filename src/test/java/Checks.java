import java.time.DateTimeException;
import java.time.LocalDate;
import java.time.LocalDateTime;
import java.time.LocalTime;
import java.time.ZoneOffset;

/** What the project's tests share: a test for each sentence, counting of wrong answers, and numbers that name nothing. */
final class Checks {
    static final int[] NO_ROWS = {-1, 2, 3, 256, 65536, -65536, Integer.MIN_VALUE, Integer.MIN_VALUE + 1, Integer.MAX_VALUE};

    /** No slots, nor places in one: among them those that would be one if a multiple of 32 wrapped around. */
    static final int[] NO_SLOTS = {-1, -2, -31, -32, 32, 33, 63, 256, 1023, 1024, 1 << 27, (1 << 27) + 1, -(1 << 27),
        Integer.MIN_VALUE, Integer.MIN_VALUE + 1, Integer.MAX_VALUE, Integer.MAX_VALUE - 1};

    private static final int MOST_LINES = 20;

    private static String words = "";
    private static int sentences = 0;
    private static int looked = 0;
    private static int wrong = 0;
    private static int wrongHere = 0;

    private Checks() {
    }

    /** Runs the test of one sentence, or of a part of one, which is told in the document's own words. */
    static void sentence(String quoted, Runnable test) {
        words = quoted;
        wrongHere = 0;
        int before = looked;
        try {
            test.run();
        } catch (RuntimeException e) {
            tell("threw " + e + " at " + (e.getStackTrace().length > 0 ? e.getStackTrace()[0] : "?"));
        }
        if (looked == before && wrongHere == 0) {
            tell("no answer was looked at");
        }
        if (wrongHere > MOST_LINES) {
            System.out.println("  .. and " + (wrongHere - MOST_LINES) + " more");
        }
        sentences++;
    }

    static void due(String call, long got, long want) {
        looked++;
        if (got != want) {
            tell(call + " answered " + got + ", due is " + want);
        }
    }

    static void due(String call, String got, String want) {
        looked++;
        if (!got.equals(want)) {
            tell(call + " answered <" + got + ">, due is <" + want + ">");
        }
    }

    private static void tell(String what) {
        wrong++;
        wrongHere++;
        if (wrongHere <= MOST_LINES) {
            System.out.println("  [" + words + "] " + readable(what));
        }
    }

    private static String readable(String text) {
        StringBuilder out = new StringBuilder();
        for (char c : text.toCharArray()) {
            if (c < 32 || c > 126) {
                out.append('{').append((int) c).append('}');
            } else {
                out.append(c);
            }
        }
        return out.toString();
    }

    static void finish() {
        System.out.println(sentences + " sentences, " + looked + " answers looked at, " + wrong + " wrong");
        if (wrong != 0 || sentences == 0) {
            System.exit(1);
        }
    }

    static int sumOf(String eleven) {
        int sum = 0;
        for (char c : eleven.toCharArray()) {
            sum = ((sum % 2 == 1 ? 128 : 0) + sum / 2 + c) % 256;
        }
        return sum;
    }

    static String padded(String text, int size) {
        return text + " ".repeat(size - text.length());
    }

    static boolean inShortName(int u) {
        return u < 128 && "ABCDEFGHIJKLMNOPQRSTUVWXYZ0123456789!#$%&'()-@^_`{}~".indexOf(u) >= 0;
    }

    /** Of numbers 0 .. 65535, by Java's own calendar. */
    static long secondsOf(int day, int time) {
        try {
            LocalDate date = LocalDate.of(1980 + (day >> 9), day >> 5 & 15, day & 31);
            LocalTime clock = LocalTime.of(time >> 11, time >> 5 & 63, (time & 31) * 2);
            return LocalDateTime.of(date, clock).toEpochSecond(ZoneOffset.UTC);
        } catch (DateTimeException e) {
            return -1;
        }
    }
}
