/** Promise 12: days and times as seconds, against Java's own calendar. */
public final class SecondsTest {
    private static final int DAY_ONE = 33;
    private static final int LAST_TIME = 23 * 2048 + 59 * 32 + 29;

    private static Counted object = new Counted();

    public static void main(String[] args) {
        Checks.sentence("Seconds from 1 January 1970, 0:00, to a day and time", SecondsTest::known);
        Checks.sentence("A DAY: 512 * (year - 1980) + 32 * month + day", SecondsTest::everyDay);
        Checks.sentence("a TIME: 2048 * hour + 32 * minute + half of the seconds (down)", SecondsTest::everyTime);
        Checks.sentence("NONE if there is no such day", SecondsTest::noDay);
        Checks.sentence("with leap years as in use: by 4", SecondsTest::byFour);
        Checks.sentence("not by 100", SecondsTest::byHundred);
        Checks.sentence("but by 400", SecondsTest::byFourHundred);
        Checks.sentence("or time", SecondsTest::noTime);
        Checks.sentence("or a number is not 0 .. 65535", SecondsTest::noNumber);
        Checks.finish();
    }

    /** No call changes an object here, but after 512 of them it must be another one. */
    private static long seconds(int day, int time) {
        if (object.left() == 0) {
            object = new Counted();
        }
        return object.seconds(day, time);
    }

    private static int dayOf(int year, int month, int day) {
        return 512 * (year - 1980) + 32 * month + day;
    }

    private static void due(String what, int day, int time, long want) {
        Checks.due(what, seconds(day, time), want);
    }

    private static void known() {
        due("1 January 1980, 0:00", DAY_ONE, 0, 315532800L);
        due("1 January 1980, 0:00:02", DAY_ONE, 1, 315532802L);
        due("1 January 1980, 0:01", DAY_ONE, 32, 315532860L);
        due("1 January 1980, 1:00", DAY_ONE, 2048, 315536400L);
        due("1 January 1980, 23:59:58", DAY_ONE, LAST_TIME, 315619198L);
        due("2 January 1980", DAY_ONE + 1, 0, 315619200L);
        due("19 January 2038, 3:14:06", dayOf(2038, 1, 19), 3 * 2048 + 14 * 32 + 3, 2147483646L);
        due("19 January 2038, 3:14:08", dayOf(2038, 1, 19), 3 * 2048 + 14 * 32 + 4, 2147483648L);
        due("7 February 2106, 6:28:16", dayOf(2106, 2, 7), 6 * 2048 + 28 * 32 + 8, 4294967296L);
        due("31 December 2107, 23:59:58", dayOf(2107, 12, 31), LAST_TIME, 4354819198L);
    }

    private static void everyDay() {
        int[] times = {0, LAST_TIME};
        for (int day = 0; day < 65536; day++) {
            for (int time : times) {
                due("seconds(" + day + ", " + time + ")", day, time, Checks.secondsOf(day, time));
            }
        }
    }

    private static void everyTime() {
        int[] days = {DAY_ONE, dayOf(2107, 12, 31), dayOf(2000, 2, 29), 0};
        for (int time = 0; time < 65536; time++) {
            for (int day : days) {
                due("seconds(" + day + ", " + time + ")", day, time, Checks.secondsOf(day, time));
            }
        }
    }

    private static void noDay() {
        int[] years = {1980, 1981, 2043, 2107};
        int[] lengths = {31, 28, 31, 30, 31, 30, 31, 31, 30, 31, 30, 31};
        for (int year : years) {
            for (int month = 0; month < 16; month++) {
                due("day 0 of month " + month + " of " + year, dayOf(year, month, 0), 0, -1);
                if (month < 1 || month > 12) {
                    due("month " + month + " of " + year, dayOf(year, month, 1), 0, -1);
                    due("day 31 of month " + month + " of " + year, dayOf(year, month, 31), 0, -1);
                } else if (month != 2) {
                    int length = lengths[month - 1];
                    Checks.due("the last of month " + month, seconds(dayOf(year, month, length), 0) > 0 ? 1 : 0, 1);
                    due("a day more", dayOf(year, month, length + 1), 0, length == 31 ? afterThe31st(year, month) : -1);
                }
            }
        }
        due("day 0", 0, 0, -1);
        due("day 65535", 65535, 0, -1);
    }

    /** A day 32 is no number of its own: it is that of day 0 in the next month. */
    private static long afterThe31st(int year, int month) {
        return Checks.secondsOf(dayOf(year, month + 1, 0), 0);
    }

    private static void february(int year, boolean leap) {
        long before = seconds(dayOf(year, 2, 28), 0);
        Checks.due("28 February " + year, before, Checks.secondsOf(dayOf(year, 2, 28), 0));
        due("29 February " + year, dayOf(year, 2, 29), 0, leap ? before + 86400 : -1);
        due("30 February " + year, dayOf(year, 2, 30), 0, -1);
        due("31 February " + year, dayOf(year, 2, 31), 0, -1);
        due("1 March " + year, dayOf(year, 3, 1), 0, before + (leap ? 2 : 1) * 86400L);
        due("31 December " + year, dayOf(year, 12, 31), 0, before + (leap ? 2 : 1) * 86400L + 305 * 86400L);
    }

    private static void byFour() {
        for (int year = 1980; year <= 2107; year++) {
            if (year % 100 != 0) {
                february(year, year % 4 == 0);
            }
        }
    }

    private static void byHundred() {
        february(2100, false);
        due("1 March 2100", dayOf(2100, 3, 1), 0, 4107542400L);
        due("1 January 2101", dayOf(2101, 1, 1), 0, 4133980800L);
    }

    private static void byFourHundred() {
        february(2000, true);
        due("29 February 2000", dayOf(2000, 2, 29), 0, 951782400L);
        due("1 January 2001", dayOf(2001, 1, 1), 0, 978307200L);
    }

    private static void noTime() {
        due("second 58", DAY_ONE, 29, 315532858L);
        due("second 60", DAY_ONE, 30, -1);
        due("second 62", DAY_ONE, 31, -1);
        due("minute 59", DAY_ONE, 59 * 32, 315536340L);
        due("hour 23", DAY_ONE, 23 * 2048, 315615600L);
        for (int minute = 60; minute < 64; minute++) {
            due("minute " + minute, DAY_ONE, minute * 32, -1);
        }
        for (int hour = 24; hour < 32; hour++) {
            due("hour " + hour, DAY_ONE, hour * 2048, -1);
        }
        due("time 65535", DAY_ONE, 65535, -1);
        due("no day and no time", 0, 65535, -1);
    }

    private static void noNumber() {
        int[] wrong = {-1, -33, DAY_ONE - 65536, 65536, 65536 + DAY_ONE, 131072 + DAY_ONE, Integer.MIN_VALUE,
            Integer.MIN_VALUE + DAY_ONE, Integer.MAX_VALUE};
        for (int number : wrong) {
            due("seconds(" + number + ", 0)", number, 0, -1);
            due("seconds(33, " + number + ")", DAY_ONE, number, -1);
            due("seconds(" + number + ", " + number + ")", number, number, -1);
        }
        due("time 65536", DAY_ONE, 65536, -1);
        due("time -65536", DAY_ONE, -65536, -1);
    }
}
