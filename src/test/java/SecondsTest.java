/** Promise 12: days and times as seconds, against Java's own calendar. */
public final class SecondsTest {
    private static final LongNames X = new LongNames();

    public static void main(String[] args) {
        everyDay();
        everyTime();
        known();
        noSuch();
        Checks.finish();
    }

    private static void everyDay() {
        for (int day = 0; day < 65536; day++) {
            Checks.due("seconds(" + day + ", 0)", X.seconds(day, 0), Checks.secondsOf(day, 0));
            Checks.due("seconds(" + day + ", 49021)", X.seconds(day, 49021), Checks.secondsOf(day, 49021));
        }
    }

    private static void everyTime() {
        int[] days = {33, 512 * 127 + 12 * 32 + 31, 512 * 20 + 2 * 32 + 29, 0};
        for (int time = 0; time < 65536; time++) {
            for (int day : days) {
                Checks.due("seconds(" + day + ", " + time + ")", X.seconds(day, time), Checks.secondsOf(day, time));
            }
        }
    }

    private static void known() {
        Checks.due("1 January 1980", X.seconds(33, 0), 315532800L);
        Checks.due("31 December 2107, 23:59:58", X.seconds(65439, 49021), 4354819198L);
        Checks.due("29 February 2000", X.seconds(512 * 20 + 64 + 29, 0), 951782400L);
        Checks.due("29 February 2100", X.seconds(512 * 120 + 64 + 29, 0), -1);
        Checks.due("28 February 2100", X.seconds(512 * 120 + 64 + 28, 0), 4107456000L);
        Checks.due("1 March 2100", X.seconds(512 * 120 + 96 + 1, 0), 4107542400L);
    }

    private static void noSuch() {
        int[] wrong = {-1, 65536, 65536 + 33, 33 - 65536, Integer.MIN_VALUE, Integer.MAX_VALUE};
        for (int number : wrong) {
            Checks.due("seconds(" + number + ", 0)", X.seconds(number, 0), -1);
            Checks.due("seconds(33, " + number + ")", X.seconds(33, number), -1);
        }
        Checks.due("second 60", X.seconds(33, 30), -1);
        Checks.due("minute 60", X.seconds(33, 60 * 32), -1);
        Checks.due("hour 24", X.seconds(33, 24 * 2048), -1);
        Checks.due("month 0", X.seconds(1, 0), -1);
        Checks.due("month 13", X.seconds(13 * 32 + 1, 0), -1);
        Checks.due("day 0", X.seconds(32, 0), -1);
    }
}
