import java.util.Arrays;

/**
 * Names of up to 255 units as a directory of slots keeps them: in parts of thirteen units before an
 * entry of eleven bytes, which is the name itself or a short one with a tail; as bytes; and days and
 * times as seconds.
 */
public final class LongNames {
    public static final int NONE = -1;

    private static final int MOST_IN_16_BITS = 65535;
    private static final int MOST_TAIL = 9999;
    private static final int MOST_PARTS = 20;

    // All rows are made here once and used again, so that no call makes anything but an exception.
    private final Row first;
    private final Row second;
    private final ShortName shortName;
    private final Part part;
    private final Slots slots;

    public LongNames() {
        first = new Row();
        second = new Row();
        shortName = new ShortName();
        part = new Part();
        slots = new Slots();
    }

    public boolean unit(int row, int u) {
        Row units = rowOf(row);
        if (units == null || u < 0 || u > MOST_IN_16_BITS) {
            return false;
        }
        return units.append(u);
    }

    public int clear(int row) {
        Row units = rowOf(row);
        if (units == null) {
            return NONE;
        }
        int had = units.size();
        units.makeEmpty();
        return had;
    }

    public int about(int row, int what) {
        Row units = rowOf(row);
        if (units == null) {
            return NONE;
        }
        switch (what) {
            case 0:
                return units.size();
            case 1:
                return units.isName() ? 1 : 0;
            case 2:
                return units.isShortAsShown() ? 1 : 0;
            case 3:
                return units.partsNeeded();
            case 4:
                return units.encodedSize();
            default:
                return NONE;
        }
    }

    public int letter(int row, int i) {
        Row units = rowOf(row);
        return units == null ? NONE : units.encodedByte(i);
    }

    public boolean alike() {
        return first.isLike(second);
    }

    public int write(int row, int slot, int tail) throws IllegalArgumentException, IndexOutOfBoundsException {
        Row name = rowOf(row);
        if (name == null || !name.isName()) {
            throw new IllegalArgumentException("the row is no name");
        }
        if (tail < 0 || tail > MOST_TAIL) {
            throw new IllegalArgumentException("the tail is not 0 to 9999");
        }
        if (tail == 0 && !name.isShortAsShown()) {
            throw new IllegalArgumentException("a name that is not short needs a tail");
        }
        int parts = tail == 0 ? 0 : name.partsNeeded();
        if (!Slots.isSlot(slot) || !Slots.isSlot(slot + parts)) {
            throw new IndexOutOfBoundsException("there are too few slots");
        }
        if (tail == 0) {
            shortName.takeShown(name);
        } else {
            shortName.takeTailed(name, tail);
        }
        writeSlots(name, slot + parts, parts);
        return parts + 1;
    }

    public int read(int row, int slot, int parts)
            throws IllegalArgumentException, IndexOutOfBoundsException, IllegalStateException {
        Row name = rowOf(row);
        if (name == null) {
            throw new IllegalArgumentException("there is no such row");
        }
        name.makeEmpty();
        if (parts < 0 || parts > MOST_PARTS) {
            throw new IllegalArgumentException("the parts are not 0 to 20");
        }
        if (!Slots.isSlot(slot) || parts > slot) {
            throw new IndexOutOfBoundsException("there is no such slot, or too few before it");
        }
        shortName.takeEntry(slots, slot);
        if (!shortName.isValid()) {
            throw new IllegalStateException("the entry has no short name");
        }
        if (parts == 0) {
            shortName.showIn(name);
        } else if (!readParts(name, slot, parts)) {
            name.makeEmpty();
            throw new IllegalStateException("the parts are not those of the entry");
        }
        return name.size();
    }

    public boolean poke(int slot, int at, int value) {
        return slots.put(slot, at, value);
    }

    public int byteAt(int slot, int at) {
        return slots.get(slot, at);
    }

    public int sum(int slot) {
        return Slots.isSlot(slot) ? slots.entrySum(slot) : NONE;
    }

    public long seconds(int day, int time) {
        if (!Days.isDay(day) || !Days.isTime(time)) {
            return NONE;
        }
        return Days.secondsBeforeDay(day) + Days.secondsOfTime(time);
    }

    private Row rowOf(int row) {
        if (row == 0) {
            return first;
        }
        return row == 1 ? second : null;
    }

    // The entry goes first, because every part holds the sum of its bytes.
    private void writeSlots(Row name, int entry, int parts) {
        shortName.storeEntry(slots, entry);
        int entrySum = slots.entrySum(entry);
        for (int n = 1; n <= parts; n++) {
            part.build(name, n, entrySum);
            part.storeIn(slots, entry - n);
        }
    }

    // What was read is right if writing it would give the very same bytes: so write and read agree.
    private boolean readParts(Row name, int entry, int parts) {
        collectUnits(name, entry, parts);
        if (!name.isName() || name.partsNeeded() != parts) {
            return false;
        }
        int entrySum = slots.entrySum(entry);
        for (int n = 1; n <= parts; n++) {
            part.build(name, n, entrySum);
            if (!part.isIn(slots, entry - n)) {
                return false;
            }
        }
        return true;
    }

    private void collectUnits(Row name, int entry, int parts) {
        for (int n = 1; n <= parts; n++) {
            for (int i = 0; i < Part.UNITS; i++) {
                int u = Part.unitIn(slots, entry - n, i);
                if (u <= 0 || !name.append(u)) {
                    return;
                }
            }
        }
    }

    /** What a single unit may be. */
    private static final class Units {
        private Units() {
        }

        static boolean mayStandInName(int u) {
            if (u < 32 || u > 65533 || u >= 55296 && u <= 57343) {
                return false;
            }
            switch (u) {
                case '"':
                case '*':
                case '/':
                case ':':
                case '<':
                case '>':
                case '?':
                case '\\':
                case '|':
                case 127:
                    return false;
                default:
                    return true;
            }
        }

        static boolean mayStandInShortName(int u) {
            if (u >= 'A' && u <= 'Z' || u >= '0' && u <= '9') {
                return true;
            }
            switch (u) {
                case '!':
                case '#':
                case '$':
                case '%':
                case '&':
                case '\'':
                case '(':
                case ')':
                case '-':
                case '@':
                case '^':
                case '_':
                case '`':
                case '{':
                case '}':
                case '~':
                    return true;
                default:
                    return false;
            }
        }

        static int capital(int u) {
            return u >= 'a' && u <= 'z' ? u - 'a' + 'A' : u;
        }

        static int shortened(int u) {
            int big = capital(u);
            return mayStandInShortName(big) ? big : '_';
        }

        static int encodedWidth(int u) {
            if (u < 128) {
                return 1;
            }
            return u < 2048 ? 2 : 3;
        }

        static int encodedByte(int u, int at) {
            int width = encodedWidth(u);
            if (width == 1) {
                return u;
            }
            int bits = u >> 6 * (width - 1 - at);
            if (at > 0) {
                return 128 + (bits & 63);
            }
            return (width == 2 ? 192 : 224) + bits;
        }
    }

    /** Up to 255 units, which may be a name or not. */
    private static final class Row {
        private static final int MOST = 255;

        private final int[] units = new int[MOST];
        private int count;

        int size() {
            return count;
        }

        void makeEmpty() {
            count = 0;
        }

        boolean append(int u) {
            if (count < 0 || count >= MOST) {
                return false;
            }
            units[count] = u;
            count++;
            return true;
        }

        int get(int i) {
            return i >= 0 && i < count && i < MOST ? units[i] : NONE;
        }

        boolean isName() {
            for (int i = 0; i < count; i++) {
                if (!Units.mayStandInName(get(i))) {
                    return false;
                }
            }
            int last = get(count - 1);
            return count > 0 && last != ' ' && last != '.';
        }

        boolean isShortAsShown() {
            int point = lastPoint();
            int before = point == NONE ? count : point;
            int behind = count - before - 1;
            if (before < 1 || before > ShortName.BASE) {
                return false;
            }
            if (point != NONE && (behind < 1 || behind > ShortName.EXTENSION)) {
                return false;
            }
            for (int i = 0; i < count; i++) {
                if (i != point && !Units.mayStandInShortName(get(i))) {
                    return false;
                }
            }
            return true;
        }

        int lastPoint() {
            for (int i = count - 1; i >= 0; i--) {
                if (get(i) == '.') {
                    return i;
                }
            }
            return NONE;
        }

        int partsNeeded() {
            return (count + Part.UNITS - 1) / Part.UNITS;
        }

        int encodedSize() {
            int size = 0;
            for (int i = 0; i < count; i++) {
                size += Units.encodedWidth(get(i));
            }
            return size;
        }

        int encodedByte(int at) {
            if (at < 0) {
                return NONE;
            }
            int rest = at;
            for (int i = 0; i < count; i++) {
                int width = Units.encodedWidth(get(i));
                if (rest < width) {
                    return Units.encodedByte(get(i), rest);
                }
                rest -= width;
            }
            return NONE;
        }

        boolean isLike(Row other) {
            if (other == null || count != other.count) {
                return false;
            }
            for (int i = 0; i < count; i++) {
                if (Units.capital(get(i)) != Units.capital(other.get(i))) {
                    return false;
                }
            }
            return true;
        }
    }

    /** The eleven bytes of an entry: a base of eight and an extension of three. */
    private static final class ShortName {
        static final int BASE = 8;
        static final int EXTENSION = 3;
        static final int SIZE = BASE + EXTENSION;

        private final int[] bytes = new int[SIZE];

        void takeShown(Row name) {
            Arrays.fill(bytes, ' ');
            int point = name.lastPoint();
            int end = point == NONE ? name.size() : point;
            shorten(name, 0, end, 0, BASE);
            shorten(name, end + 1, name.size(), BASE, EXTENSION);
        }

        void takeTailed(Row name, int tail) {
            Arrays.fill(bytes, ' ');
            int point = name.lastPoint();
            int end = point > 0 ? point : name.size();
            int digits = digitsOf(tail);
            int kept = shorten(name, 0, end, 0, BASE - 1 - digits);
            set(kept, '~');
            setNumber(kept + 1, digits, tail);
            shorten(name, end + 1, name.size(), BASE, EXTENSION);
        }

        void takeEntry(Slots slots, int slot) {
            for (int i = 0; i < SIZE; i++) {
                set(i, slots.get(slot, i));
            }
        }

        void storeEntry(Slots slots, int slot) {
            for (int at = 0; at < Slots.BYTES; at++) {
                slots.put(slot, at, at < SIZE ? get(at) : 0);
            }
        }

        boolean isValid() {
            return get(0) != ' ' && blanksOnlyEnd(0, BASE) && blanksOnlyEnd(BASE, SIZE);
        }

        void showIn(Row row) {
            showBytes(row, 0, BASE);
            if (get(BASE) != ' ') {
                row.append('.');
                showBytes(row, BASE, SIZE);
            }
        }

        private void showBytes(Row row, int from, int to) {
            for (int i = from; i < to && get(i) != ' '; i++) {
                row.append(get(i));
            }
        }

        private boolean blanksOnlyEnd(int from, int to) {
            boolean ended = false;
            for (int i = from; i < to; i++) {
                if (get(i) == ' ') {
                    ended = true;
                } else if (ended || !Units.mayStandInShortName(get(i))) {
                    return false;
                }
            }
            return true;
        }

        /** Answers how many bytes came from the units, of which blanks and points give none. */
        private int shorten(Row name, int from, int to, int place, int most) {
            int came = 0;
            for (int i = from; i < to && came < most; i++) {
                int u = name.get(i);
                if (u != ' ' && u != '.') {
                    set(place + came, Units.shortened(u));
                    came++;
                }
            }
            return came;
        }

        private void setNumber(int place, int digits, int number) {
            int rest = number;
            for (int i = digits - 1; i >= 0; i--) {
                set(place + i, '0' + rest % 10);
                rest /= 10;
            }
        }

        private static int digitsOf(int number) {
            if (number < 100) {
                return number < 10 ? 1 : 2;
            }
            return number < 1000 ? 3 : 4;
        }

        private void set(int i, int value) {
            if (i >= 0 && i < SIZE) {
                bytes[i] = value;
            }
        }

        private int get(int i) {
            return i >= 0 && i < SIZE ? bytes[i] : NONE;
        }
    }

    /** The 32 bytes of one part, built apart from the slots to be stored in one or compared with it. */
    private static final class Part {
        static final int UNITS = 13;

        private static final int LAST_MARK = 64;
        private static final int[] PLACES = {1, 3, 5, 7, 9, 14, 16, 18, 20, 22, 24, 28, 30};

        private final int[] bytes = new int[Slots.BYTES];

        void build(Row name, int n, int entrySum) {
            Arrays.fill(bytes, 0);
            set(0, n == name.partsNeeded() ? n + LAST_MARK : n);
            set(11, 15);
            set(13, entrySum);
            for (int i = 0; i < UNITS; i++) {
                int u = unitOrFill(name, UNITS * (n - 1) + i);
                set(placeOf(i), u & 255);
                set(placeOf(i) + 1, u >> 8);
            }
        }

        void storeIn(Slots slots, int slot) {
            for (int at = 0; at < Slots.BYTES; at++) {
                slots.put(slot, at, get(at));
            }
        }

        boolean isIn(Slots slots, int slot) {
            for (int at = 0; at < Slots.BYTES; at++) {
                if (slots.get(slot, at) != get(at)) {
                    return false;
                }
            }
            return true;
        }

        static int unitIn(Slots slots, int slot, int i) {
            int place = placeOf(i);
            return slots.get(slot, place) + 256 * slots.get(slot, place + 1);
        }

        private static int unitOrFill(Row name, int i) {
            if (i < name.size()) {
                return name.get(i);
            }
            return i == name.size() ? 0 : MOST_IN_16_BITS;
        }

        private static int placeOf(int i) {
            return i >= 0 && i < PLACES.length ? PLACES[i] : NONE;
        }

        private void set(int at, int value) {
            if (at >= 0 && at < Slots.BYTES) {
                bytes[at] = value;
            }
        }

        private int get(int at) {
            return at >= 0 && at < Slots.BYTES ? bytes[at] : NONE;
        }
    }

    /** The directory: 32 slots of 32 bytes. */
    private static final class Slots {
        static final int BYTES = 32;

        private static final int COUNT = 32;

        private final int[] bytes = new int[COUNT * BYTES];

        static boolean isSlot(int slot) {
            return slot >= 0 && slot < COUNT;
        }

        boolean put(int slot, int at, int value) {
            if (!hasByte(slot, at)) {
                return false;
            }
            bytes[slot * BYTES + at] = value & 255;
            return true;
        }

        int get(int slot, int at) {
            return hasByte(slot, at) ? bytes[slot * BYTES + at] : NONE;
        }

        int entrySum(int slot) {
            int total = 0;
            for (int at = 0; at < ShortName.SIZE; at++) {
                int turned = (total & 1) * 128 + (total >> 1);
                total = turned + get(slot, at) & 255;
            }
            return total;
        }

        private static boolean hasByte(int slot, int at) {
            return isSlot(slot) && at >= 0 && at < BYTES;
        }
    }

    /** Days and times as two numbers of sixteen bits, and the seconds that they stand for. */
    private static final class Days {
        private static final int[] MONTHS = {31, 28, 31, 30, 31, 30, 31, 31, 30, 31, 30, 31};
        private static final int FIRST_YEAR = 1970;
        private static final long DAY_SECONDS = 86400L;

        private Days() {
        }

        static boolean isDay(int day) {
            if (day < 0 || day > MOST_IN_16_BITS) {
                return false;
            }
            int dayOfMonth = dayOf(day);
            return dayOfMonth >= 1 && dayOfMonth <= monthLength(yearOf(day), monthOf(day));
        }

        static boolean isTime(int time) {
            if (time < 0 || time > MOST_IN_16_BITS) {
                return false;
            }
            return hourOf(time) < 24 && minuteOf(time) < 60 && halfOf(time) < 30;
        }

        static long secondsBeforeDay(int day) {
            int year = yearOf(day);
            long days = dayOf(day) - 1;
            for (int y = FIRST_YEAR; y < year; y++) {
                days += isLeap(y) ? 366 : 365;
            }
            int month = monthOf(day);
            for (int m = 1; m < month; m++) {
                days += monthLength(year, m);
            }
            return days * DAY_SECONDS;
        }

        static long secondsOfTime(int time) {
            return 3600L * hourOf(time) + 60L * minuteOf(time) + 2L * halfOf(time);
        }

        /** Answers 0 for a month that there is not: no day can stand in it. */
        private static int monthLength(int year, int month) {
            if (month < 1 || month > 12) {
                return 0;
            }
            return month == 2 && isLeap(year) ? 29 : MONTHS[month - 1];
        }

        private static boolean isLeap(int year) {
            return year % 4 == 0 && (year % 100 != 0 || year % 400 == 0);
        }

        private static int yearOf(int day) {
            return 1980 + day / 512;
        }

        private static int monthOf(int day) {
            return day / 32 % 16;
        }

        private static int dayOf(int day) {
            return day % 32;
        }

        private static int hourOf(int time) {
            return time / 2048;
        }

        private static int minuteOf(int time) {
            return time / 32 % 64;
        }

        private static int halfOf(int time) {
            return time % 32;
        }
    }
}
