import java.nio.charset.StandardCharsets;
import java.util.Locale;
import java.util.Random;

/**
 * All promises: random runs of calls, answered by the class and by a second program, which is written
 * from the document with texts and patterns, so that a slip in one does not stand in the other.
 */
public final class ModelTest {
    private static final int RUNS = 4000;
    private static final int CALLS = 512;
    private static final Random RANDOM = new Random(20261115L);
    private static final String COMMON = "ABCabcxyzXYZ0189._-~! +[";
    private static final int[] EDGES = {0, 31, 32, 33, '"', '*', '/', ':', '<', '>', '?', '\\', '|', 126, 127, 128, 255, 256,
        2047, 2048, 55295, 55296, 57343, 57344, 65533, 65534, 65535, 65536, -1};

    public static void main(String[] args) {
        for (int run = 0; run < RUNS; run++) {
            oneRun(run);
        }
        Checks.finish();
    }

    private static void oneRun(int run) {
        LongNames x = new LongNames();
        Model m = new Model();
        boolean tame = run % 2 == 0;
        for (int call = 0; call < CALLS; call++) {
            oneCall(x, m, tame, "run " + run + ", call " + call + ": ");
        }
        Checks.due("run " + run + ": slots", Checks.slots(x), String.valueOf(m.slots));
    }

    private static void oneCall(LongNames x, Model m, boolean tame, String where) {
        int row = small(2);
        int slot = RANDOM.nextInt(8) == 0 ? small(32) : RANDOM.nextInt(6);
        int at = small(32);
        switch (RANDOM.nextInt(20)) {
            case 0:
                if (tame ? RANDOM.nextInt(4) == 0 : RANDOM.nextInt(2) == 0) {
                    Checks.due(where + "clear " + row, x.clear(row), m.clear(row));
                }
                break;
            case 1:
                int what = small(5);
                Checks.due(where + "about " + row + " " + what, x.about(row, what), m.about(row, what));
                break;
            case 2:
                int i = small(30);
                Checks.due(where + "letter " + row + " " + i, x.letter(row, i), m.letter(row, i));
                break;
            case 3:
                Checks.due(where + "alike", x.alike(), m.alike());
                break;
            case 4:
            case 5:
            case 6:
                int tail = RANDOM.nextInt(3) == 0 ? small(1) : small(9999);
                Checks.due(where + "write " + row + " " + slot + " " + tail, Checks.write(x, row, slot, tail), m.write(row, slot, tail));
                break;
            case 7:
            case 8:
            case 9:
                int parts = RANDOM.nextInt(8) == 0 ? small(21) : RANDOM.nextInt(4);
                Checks.due(where + "read " + row + " " + slot + " " + parts, Checks.read(x, row, slot, parts), m.read(row, slot, parts));
                Checks.due(where + "the row", x.about(row, 0), m.about(row, 0));
                break;
            case 10:
                int value = RANDOM.nextInt(3) == 0 ? RANDOM.nextInt() : COMMON.charAt(RANDOM.nextInt(COMMON.length()));
                if (!tame || RANDOM.nextInt(10) == 0) {
                    Checks.due(where + "poke " + slot + " " + at, x.poke(slot, at, value), m.poke(slot, at, value));
                }
                break;
            case 11:
                Checks.due(where + "byteAt " + slot + " " + at, x.byteAt(slot, at), m.byteAt(slot, at));
                break;
            case 12:
                Checks.due(where + "sum " + slot, x.sum(slot), m.sum(slot));
                break;
            case 13:
                int day = small(65536);
                int time = small(65536);
                Checks.due(where + "seconds " + day + " " + time, x.seconds(day, time), m.seconds(day, time));
                break;
            default:
                units(x, m, tame, row, where);
        }
    }

    private static void units(LongNames x, Model m, boolean tame, int row, String where) {
        int count = RANDOM.nextInt(60) == 0 ? 120 : RANDOM.nextInt(4);
        for (int k = 0; k < count; k++) {
            int u = COMMON.charAt(RANDOM.nextInt(COMMON.length()));
            if (RANDOM.nextInt(tame ? 400 : 20) == 0) {
                u = RANDOM.nextBoolean() ? EDGES[RANDOM.nextInt(EDGES.length)] : RANDOM.nextInt(70000) - 1000;
            }
            Checks.due(where + "unit " + row + " " + u, x.unit(row, u), m.unit(row, u));
        }
    }

    /** Mostly 0 .. n - 1, seldom something outside. */
    private static int small(int n) {
        switch (RANDOM.nextInt(60)) {
            case 0:
                return -1;
            case 1:
                return n;
            case 2:
                return RANDOM.nextInt();
            case 3:
                return RANDOM.nextBoolean() ? Integer.MAX_VALUE : Integer.MIN_VALUE;
            default:
                return RANDOM.nextInt(n);
        }
    }

    private static final class Model {
        private static final String SMALL = "[A-Z0-9!#$%&'()\\-@^_`{}~]";

        final String[] rows = {"", ""};
        final char[] slots = new char[1024];

        boolean noRow(int row) {
            return row != 0 && row != 1;
        }

        boolean unit(int row, int u) {
            if (noRow(row) || u != (char) u || rows[row].length() == 255) {
                return false;
            }
            rows[row] += (char) u;
            return true;
        }

        int clear(int row) {
            if (noRow(row)) {
                return -1;
            }
            int had = rows[row].length();
            rows[row] = "";
            return had;
        }

        static boolean isName(String s) {
            if (s.isEmpty() || s.length() > 255 || s.endsWith(" ") || s.endsWith(".")) {
                return false;
            }
            return s.chars().noneMatch(u -> u < 32 || "\"*/:<>?\\|\u007f".indexOf(u) >= 0
                || Character.isSurrogate((char) u) || u >= 65534);
        }

        static boolean isShown(String s) {
            return s.matches("(?s)" + SMALL + "{1,8}(\\." + SMALL + "{1,3})?");
        }

        static byte[] bytes(String s) {
            java.io.ByteArrayOutputStream out = new java.io.ByteArrayOutputStream();
            for (char c : s.toCharArray()) {
                if (Character.isSurrogate(c)) {
                    out.write(0xed);
                    out.write(0x80 | (c - 0xd000) / 64);
                    out.write(0x80 | c % 64);
                } else {
                    out.writeBytes(String.valueOf(c).getBytes(StandardCharsets.UTF_8));
                }
            }
            return out.toByteArray();
        }

        int about(int row, int what) {
            if (noRow(row) || what < 0 || what > 4) {
                return -1;
            }
            String s = rows[row];
            int[] all = {s.length(), isName(s) ? 1 : 0, isShown(s) ? 1 : 0, (int) Math.ceil(s.length() / 13.0), bytes(s).length};
            return all[what];
        }

        int letter(int row, int i) {
            if (noRow(row)) {
                return -1;
            }
            byte[] all = bytes(rows[row]);
            return i >= 0 && i < all.length ? all[i] & 255 : -1;
        }

        static String big(String s) {
            StringBuilder out = new StringBuilder();
            for (char c : s.toCharArray()) {
                out.append(c < 128 ? String.valueOf(c).toUpperCase(Locale.ROOT) : String.valueOf(c));
            }
            return out.toString();
        }

        boolean alike() {
            return big(rows[0]).equals(big(rows[1]));
        }

        static String few(String s) {
            StringBuilder out = new StringBuilder();
            for (char c : big(s).replaceAll("[ .]", "").toCharArray()) {
                out.append(String.valueOf(c).matches(SMALL) ? c : '_');
            }
            return out.toString();
        }

        static String pad(String s, int n) {
            return s + " ".repeat(n - s.length());
        }

        static String cut(String s, int n) {
            return s.substring(0, Math.min(n, s.length()));
        }

        static String entryOf(String s, int tail) {
            int point = s.lastIndexOf('.');
            if (tail == 0) {
                return point < 0 ? pad(s, 11) : pad(s.substring(0, point), 8) + pad(s.substring(point + 1), 3);
            }
            String base = point > 0 ? s.substring(0, point) : s;
            String end = point > 0 ? s.substring(point + 1) : "";
            return pad(cut(few(base), 7 - ("" + tail).length()) + "~" + tail, 8) + pad(cut(few(end), 3), 3);
        }

        static String partOf(String s, int n, int sum) {
            int from = 13 * (n - 1);
            String units = cut(s.substring(from), 13);
            boolean last = from + 13 >= s.length();
            units = cut(units + "\0" + "\uffff".repeat(13), 13);
            StringBuilder two = new StringBuilder();
            for (char c : units.toCharArray()) {
                two.append((char) (c % 256)).append((char) (c / 256));
            }
            return (char) (last ? n + 64 : n) + two.substring(0, 10) + "\u000f\0" + (char) sum + two.substring(10, 22)
                + "\0\0" + two.substring(22);
        }

        static String allOf(String s, String entry, boolean withParts) {
            StringBuilder all = new StringBuilder();
            for (int n = (s.length() + 12) / 13; n >= 1 && withParts; n--) {
                all.append(partOf(s, n, Checks.sumOf(entry)));
            }
            return all.append(entry).toString();
        }

        int write(int row, int slot, int tail) {
            if (noRow(row) || !isName(rows[row]) || tail < 0 || tail > 9999 || tail == 0 && !isShown(rows[row])) {
                return Checks.ARGUMENT;
            }
            String all = allOf(rows[row], entryOf(rows[row], tail), tail != 0) + "\0".repeat(21);
            if (slot < 0 || slot >= 32 || 32 * slot + all.length() > 1024) {
                return Checks.INDEX;
            }
            all.getChars(0, all.length(), slots, 32 * slot);
            return all.length() / 32;
        }

        int read(int row, int slot, int parts) {
            if (!noRow(row)) {
                rows[row] = "";
            }
            if (noRow(row) || parts < 0 || parts > 20) {
                return Checks.ARGUMENT;
            }
            if (slot < 0 || slot > 31 || slot < parts) {
                return Checks.INDEX;
            }
            String entry = new String(slots, 32 * slot, 11);
            if (!eightAndThree(entry)) {
                return Checks.STATE;
            }
            String name = parts == 0 ? shown(entry) : joined(slot, parts);
            String stands = new String(slots, 32 * (slot - parts), 32 * parts + 11);
            if (parts > 0 && (!isName(name) || !allOf(name, entry, true).equals(stands))) {
                return Checks.STATE;
            }
            rows[row] = name;
            return name.length();
        }

        static boolean eightAndThree(String entry) {
            return entry.substring(0, 8).matches(SMALL + "+ *") && entry.substring(8).matches(SMALL + "* *");
        }

        static String shown(String entry) {
            String base = entry.substring(0, 8).trim();
            String end = entry.substring(8).trim();
            return end.isEmpty() ? base : base + "." + end;
        }

        String joined(int slot, int parts) {
            StringBuilder name = new StringBuilder();
            for (int n = 1; n <= parts; n++) {
                String part = new String(slots, 32 * (slot - n), 32);
                String two = part.substring(1, 11) + part.substring(14, 26) + part.substring(28);
                for (int k = 0; k < 26; k += 2) {
                    name.append((char) (two.charAt(k) + 256 * two.charAt(k + 1)));
                }
            }
            int end = name.indexOf("\0");
            return end < 0 ? name.toString() : name.substring(0, end);
        }

        boolean poke(int slot, int at, int value) {
            if (slot < 0 || slot > 31 || at < 0 || at > 31) {
                return false;
            }
            slots[32 * slot + at] = (char) Math.floorMod(value, 256);
            return true;
        }

        int byteAt(int slot, int at) {
            return slot < 0 || slot > 31 || at < 0 || at > 31 ? -1 : slots[32 * slot + at];
        }

        int sum(int slot) {
            return slot < 0 || slot > 31 ? -1 : Checks.sumOf(new String(slots, 32 * slot, 11));
        }

        long seconds(int day, int time) {
            return day != (char) day || time != (char) time ? -1 : Checks.secondsOf(day, time);
        }
    }
}
