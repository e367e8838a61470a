import java.util.ArrayList;
import java.util.List;
import java.util.Random;

/** All promises: random runs of calls, answered by the class and by a second program. */
public final class ModelTest {
    private static final int RUNS = 4000;
    private static final Random RANDOM = new Random(20261115L);
    private static final String COMMON = "ABCabcxyzXYZ0189._-~! +[";
    private static final int[] EDGES = {0, 31, 32, 33, '"', '*', '/', ':', '<', '>', '?', '\\', '|', 126, 127, 128, 255, 256,
        2047, 2048, 55295, 55296, 57343, 57344, 65533, 65534, 65535, 65536, -1};

    public static void main(String[] args) {
        Checks.sentence("all promises, in runs of 512 calls", ModelTest::longRuns);
        Checks.sentence("all promises, in shorter runs, and all bytes after them", ModelTest::shorterRuns);
        Checks.finish();
    }

    private static void longRuns() {
        for (int run = 0; run < RUNS; run++) {
            compare(new Counted(), new Model(), randomCalls(run % 2 == 0, Counted.MOST_CALLS), "run " + run);
        }
    }

    private static void shorterRuns() {
        for (int run = 0; run < RUNS / 4; run++) {
            List<Call> calls = randomCalls(run % 2 == 0, 350);
            Model m = new Model();
            compare(new Counted(), m, calls, "shorter run " + run);
            String slots = Counted.slots(() -> after(calls));
            Checks.due("slots of shorter run " + run, slots, String.valueOf(m.slots));
        }
    }

    private static void compare(Counted x, Model m, List<Call> calls, String run) {
        for (int k = 0; k < calls.size(); k++) {
            Call call = calls.get(k);
            Checks.due(run + ", call " + k + ": " + call, call.on(x), call.on(m));
        }
    }

    private static Counted after(List<Call> calls) {
        Counted x = new Counted();
        for (Call call : calls) {
            call.on(x);
        }
        return x;
    }

    private record Call(String name, int a, int b, int c) {
        long on(Names x) {
            switch (name) {
                case "unit":
                    return x.unit(a, b);
                case "clear":
                    return x.clear(a);
                case "about":
                    return x.about(a, b);
                case "letter":
                    return x.letter(a, b);
                case "alike":
                    return x.alike();
                case "write":
                    return x.write(a, b, c);
                case "read":
                    return x.read(a, b, c);
                case "poke":
                    return x.poke(a, b, c);
                case "byteAt":
                    return x.byteAt(a, b);
                case "sum":
                    return x.sum(a);
                default:
                    return x.seconds(a, b);
            }
        }
    }

    /** A tame run has few units that no name may have, and few pokes, so that more of its writes and reads go well. */
    private static List<Call> randomCalls(boolean tame, int most) {
        List<Call> calls = new ArrayList<>();
        while (calls.size() < most) {
            addRandom(calls, tame);
        }
        return calls.subList(0, most);
    }

    private static void addRandom(List<Call> calls, boolean tame) {
        int row = small(2);
        int slot = RANDOM.nextInt(8) == 0 ? small(32) : RANDOM.nextInt(6);
        int kind = RANDOM.nextInt(20);
        if (kind == 0 && RANDOM.nextInt(tame ? 4 : 2) == 0) {
            calls.add(new Call("clear", row, 0, 0));
        } else if (kind == 1) {
            calls.add(new Call("about", row, small(5), 0));
        } else if (kind == 2) {
            calls.add(new Call("letter", row, small(30), 0));
        } else if (kind == 3) {
            calls.add(new Call("alike", 0, 0, 0));
        } else if (kind < 7) {
            calls.add(new Call("write", row, slot, RANDOM.nextInt(3) == 0 ? small(1) : small(9999)));
        } else if (kind < 10) {
            calls.add(new Call("read", row, slot, RANDOM.nextInt(8) == 0 ? small(21) : RANDOM.nextInt(4)));
            calls.add(new Call("about", row, 0, 0));
        } else if (kind == 10 && (!tame || RANDOM.nextInt(10) == 0)) {
            calls.add(new Call("poke", slot, small(32), RANDOM.nextInt(3) == 0 ? RANDOM.nextInt() : common()));
        } else if (kind == 11) {
            calls.add(new Call("byteAt", slot, small(32), 0));
        } else if (kind == 12) {
            calls.add(new Call("sum", slot, 0, 0));
        } else if (kind == 13) {
            calls.add(new Call("seconds", small(65536), small(65536), 0));
        } else if (kind > 13) {
            addUnits(calls, tame, row);
        }
    }

    private static void addUnits(List<Call> calls, boolean tame, int row) {
        int count = RANDOM.nextInt(60) == 0 ? 120 : RANDOM.nextInt(4);
        for (int k = 0; k < count; k++) {
            int u = common();
            if (RANDOM.nextInt(tame ? 400 : 20) == 0) {
                u = RANDOM.nextBoolean() ? EDGES[RANDOM.nextInt(EDGES.length)] : RANDOM.nextInt(70000) - 1000;
            }
            calls.add(new Call("unit", row, u, 0));
        }
    }

    private static int common() {
        return COMMON.charAt(RANDOM.nextInt(COMMON.length()));
    }

    /** Mostly 0 .. n - 1, seldom something outside. */
    private static int small(int n) {
        switch (RANDOM.nextInt(60)) {
            case 0:
                return -1;
            case 1:
                return n;
            case 2:
                return RANDOM.nextInt();
            case 3:
                return RANDOM.nextBoolean() ? Integer.MAX_VALUE : Integer.MIN_VALUE;
            default:
                return RANDOM.nextInt(n);
        }
    }
}
