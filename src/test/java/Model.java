import java.io.ByteArrayOutputStream;
import java.nio.charset.StandardCharsets;
import java.util.Locale;

/**
 * A second program for the same document, written with texts and patterns, so that a slip in the class
 * does not stand here too.
 */
final class Model implements Names {
    private static final String SMALL = "[A-Z0-9!#$%&'()\\-@^_`{}~]";

    final String[] rows = {"", ""};
    final char[] slots = new char[1024];

    boolean noRow(int row) {
        return row != 0 && row != 1;
    }

    public int unit(int row, int u) {
        if (noRow(row) || u != (char) u || rows[row].length() == 255) {
            return 0;
        }
        rows[row] += (char) u;
        return 1;
    }

    public int clear(int row) {
        if (noRow(row)) {
            return -1;
        }
        int had = rows[row].length();
        rows[row] = "";
        return had;
    }

    static boolean isName(String s) {
        if (s.isEmpty() || s.length() > 255 || s.endsWith(" ") || s.endsWith(".")) {
            return false;
        }
        return s.chars().noneMatch(u -> u < 32 || "\"*/:<>?\\|\u007f".indexOf(u) >= 0
            || Character.isSurrogate((char) u) || u >= 65534);
    }

    static boolean isShown(String s) {
        return s.matches("(?s)" + SMALL + "{1,8}(\\." + SMALL + "{1,3})?");
    }

    static byte[] bytes(String s) {
        ByteArrayOutputStream out = new ByteArrayOutputStream();
        for (char c : s.toCharArray()) {
            if (Character.isSurrogate(c)) {
                out.write(0xed);
                out.write(0x80 | (c - 0xd000) / 64);
                out.write(0x80 | c % 64);
            } else {
                out.writeBytes(String.valueOf(c).getBytes(StandardCharsets.UTF_8));
            }
        }
        return out.toByteArray();
    }

    public int about(int row, int what) {
        if (noRow(row) || what < 0 || what > 4) {
            return -1;
        }
        String s = rows[row];
        int[] all = {s.length(), isName(s) ? 1 : 0, isShown(s) ? 1 : 0, (int) Math.ceil(s.length() / 13.0), bytes(s).length};
        return all[what];
    }

    public int letter(int row, int i) {
        if (noRow(row)) {
            return -1;
        }
        byte[] all = bytes(rows[row]);
        return i >= 0 && i < all.length ? all[i] & 255 : -1;
    }

    static String big(String s) {
        StringBuilder out = new StringBuilder();
        for (char c : s.toCharArray()) {
            out.append(c < 128 ? String.valueOf(c).toUpperCase(Locale.ROOT) : String.valueOf(c));
        }
        return out.toString();
    }

    public int alike() {
        return big(rows[0]).equals(big(rows[1])) ? 1 : 0;
    }

    static String few(String s) {
        StringBuilder out = new StringBuilder();
        for (char c : big(s).replaceAll("[ .]", "").toCharArray()) {
            out.append(String.valueOf(c).matches(SMALL) ? c : '_');
        }
        return out.toString();
    }

    static String pad(String s, int n) {
        return s + " ".repeat(n - s.length());
    }

    static String cut(String s, int n) {
        return s.substring(0, Math.min(n, s.length()));
    }

    static String entryOf(String s, int tail) {
        int point = s.lastIndexOf('.');
        if (tail == 0) {
            return point < 0 ? pad(s, 11) : pad(s.substring(0, point), 8) + pad(s.substring(point + 1), 3);
        }
        String base = point > 0 ? s.substring(0, point) : s;
        String end = point > 0 ? s.substring(point + 1) : "";
        return pad(cut(few(base), 7 - ("" + tail).length()) + "~" + tail, 8) + pad(cut(few(end), 3), 3);
    }

    static String partOf(String s, int n, int sum) {
        int from = 13 * (n - 1);
        String units = cut(s.substring(from), 13);
        boolean last = from + 13 >= s.length();
        units = cut(units + "\0" + "\uffff".repeat(13), 13);
        StringBuilder two = new StringBuilder();
        for (char c : units.toCharArray()) {
            two.append((char) (c % 256)).append((char) (c / 256));
        }
        return (char) (last ? n + 64 : n) + two.substring(0, 10) + "\u000f\0" + (char) sum + two.substring(10, 22)
            + "\0\0" + two.substring(22);
    }

    static String allOf(String s, String entry, boolean withParts) {
        StringBuilder all = new StringBuilder();
        for (int n = (s.length() + 12) / 13; n >= 1 && withParts; n--) {
            all.append(partOf(s, n, Checks.sumOf(entry)));
        }
        return all.append(entry).toString();
    }

    public int write(int row, int slot, int tail) {
        if (noRow(row) || !isName(rows[row]) || tail < 0 || tail > 9999 || tail == 0 && !isShown(rows[row])) {
            return ARGUMENT;
        }
        String all = allOf(rows[row], entryOf(rows[row], tail), tail != 0) + "\0".repeat(21);
        if (slot < 0 || slot >= 32 || 32 * slot + all.length() > 1024) {
            return INDEX;
        }
        all.getChars(0, all.length(), slots, 32 * slot);
        return all.length() / 32;
    }

    public int read(int row, int slot, int parts) {
        if (!noRow(row)) {
            rows[row] = "";
        }
        if (noRow(row) || parts < 0 || parts > 20) {
            return ARGUMENT;
        }
        if (slot < 0 || slot > 31 || slot < parts) {
            return INDEX;
        }
        String entry = new String(slots, 32 * slot, 11);
        if (!eightAndThree(entry)) {
            return STATE;
        }
        String name = parts == 0 ? shown(entry) : joined(slot, parts);
        String stands = new String(slots, 32 * (slot - parts), 32 * parts + 11);
        if (parts > 0 && (!isName(name) || !allOf(name, entry, true).equals(stands))) {
            return STATE;
        }
        rows[row] = name;
        return name.length();
    }

    static boolean eightAndThree(String entry) {
        return entry.substring(0, 8).matches(SMALL + "+ *") && entry.substring(8).matches(SMALL + "* *");
    }

    static String shown(String entry) {
        String base = entry.substring(0, 8).trim();
        String end = entry.substring(8).trim();
        return end.isEmpty() ? base : base + "." + end;
    }

    String joined(int slot, int parts) {
        StringBuilder name = new StringBuilder();
        for (int n = 1; n <= parts; n++) {
            String part = new String(slots, 32 * (slot - n), 32);
            String two = part.substring(1, 11) + part.substring(14, 26) + part.substring(28);
            for (int k = 0; k < 26; k += 2) {
                name.append((char) (two.charAt(k) + 256 * two.charAt(k + 1)));
            }
        }
        int end = name.indexOf("\0");
        return end < 0 ? name.toString() : name.substring(0, end);
    }

    public int poke(int slot, int at, int value) {
        if (slot < 0 || slot > 31 || at < 0 || at > 31) {
            return 0;
        }
        slots[32 * slot + at] = (char) Math.floorMod(value, 256);
        return 1;
    }

    public int byteAt(int slot, int at) {
        return slot < 0 || slot > 31 || at < 0 || at > 31 ? -1 : slots[32 * slot + at];
    }

    public int sum(int slot) {
        return slot < 0 || slot > 31 ? -1 : Checks.sumOf(new String(slots, 32 * slot, 11));
    }

    public long seconds(int day, int time) {
        return day != (char) day || time != (char) time ? -1 : Checks.secondsOf(day, time);
    }
}
