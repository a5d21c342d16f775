import java.util.ArrayList;
import java.util.Arrays;
import java.util.LinkedHashMap;
import java.util.List;
import java.util.Map;
import java.util.stream.Collectors;
import java.util.stream.IntStream;

/**
 * The refusals of every call, "in the order in which a call's line tells them .. they change nothing": each number just
 * outside and far outside, alone and together with others, on objects that came different ways.
 */
public final class RefusalsTest {
    private static final int UNKNOWN = -1, OUTSIDE = -2, FULL = -4, NONE = -9;
    /** So many go together on one object, which may be asked 512 calls. */
    private static final int PORTION = 90;
    private static final int[] FAR = {Integer.MIN_VALUE, Integer.MIN_VALUE + 1, -65536, -512, -256, -10, -3, 600, 65536,
        Integer.MAX_VALUE - 1, Integer.MAX_VALUE};

    /** What one argument may be, and what is due if it is not. */
    private record Argument(int refusal, int... may) {
        boolean takes(int v) {
            for (int one : may) {
                if (one == v) {
                    return true;
                }
            }
            return false;
        }

        /** Each number that is next to one that is taken, and far ones. */
        List<Integer> wrong() {
            List<Integer> wrong = new ArrayList<>();
            wrong.add(-1);
            for (int one : may) {
                addNew(wrong, one - 1);
                addNew(wrong, one + 1);
            }
            for (int one : FAR) {
                addNew(wrong, one);
            }
            wrong.removeIf(this::takes);
            return wrong;
        }

        private static void addNew(List<Integer> row, int v) {
            if (!row.contains(v)) {
                row.add(v);
            }
        }
    }

    private record Way(String title, String text, int steps) {
    }

    private static final Way[] WAYS = {new Way("new", Ways.NEW, 0), new Way("busy", Ways.BUSY, Ways.BUSY_STEPS),
        new Way("locked", Ways.LOCKED, 0), new Way("full", Ways.FULL, Ways.FULL_STEPS)};

    public static void main(String[] args) {
        for (Way way : WAYS) {
            settings(way);
            ticks(way);
            notes(way);
            script(way);
            states(way);
        }
        full();
        Check.end();
    }

    private static Argument unknown(int least, int most) {
        return new Argument(UNKNOWN, range(least, most));
    }

    private static Argument outside(int least, int most) {
        return new Argument(OUTSIDE, range(least, most));
    }

    private static int[] range(int least, int most) {
        int[] row = new int[Math.max(0, most - least + 1)];
        for (int k = 0; k < row.length; k++) {
            row[k] = least + k;
        }
        return row;
    }

    private static void settings(Way way) {
        refused(way, "anew", outside(0, 5), outside(1, 9), outside(1, 30), outside(0, 3), outside(2, 9));
        refused(way, "stick", unknown(0, 8), outside(0, 2));
        refused(way, "valve", unknown(0, 1), outside(0, 2));
    }

    private static void ticks(Way way) {
        refused(way, "tick", outside(0, 511));
        refused(way, "ticks", outside(0, 511), outside(0, 60));
        refused(way, "now", outside(0, 13));
        refused(way, "setting", outside(0, 4));
        refused(way, "leadsTo", outside(0, 4));
    }

    private static void notes(Way way) {
        int[] positions = range(-1, 17);
        positions[0] = NONE;
        refused(way, "locked", unknown(1, 5), new Argument(OUTSIDE, positions));
        refused(way, "cause", outside(0, 4));
        refused(way, "followed", outside(0, 4));
        refused(way, "many", outside(0, 6));
    }

    private static void script(Way way) {
        refused(way, "step", outside(0, 511));
        refused(way, "stepAt", unknown(0, way.steps - 1));
        refused(way, "trial", unknown(0, 8), outside(0, 1), outside(0, way.steps), outside(0, 4));
        refused(way, "trials", outside(0, 5));
    }

    private static void states(Way way) {
        Argument set = outside(0, 511), may = new Argument(OUTSIDE, setsOfTwo()), n = outside(0, 5);
        refused(way, "reach", set, may, n, new Argument(OUTSIDE, 0, 1, 10, 11, 12, 13, 14));
    }

    /** "may: more than two INPUTS" */
    private static int[] setsOfTwo() {
        return IntStream.range(0, 512).filter(set -> Integer.bitCount(set) <= 2).toArray();
    }

    private static void refused(Way way, String name, Argument... row) {
        Map<String, Integer> calls = new LinkedHashMap<>();
        for (int k = 0; k < row.length; k++) {
            for (int v : row[k].wrong()) {
                put(calls, name, row, new int[] {k}, v, v);
            }
            for (int other = 0; other < row.length; other++) {
                if (other != k) {
                    put(calls, name, row, new int[] {k, other}, Integer.MIN_VALUE, -1);
                    put(calls, name, row, new int[] {k, other}, Integer.MAX_VALUE, 600);
                }
            }
        }
        int[] every = IntStream.range(0, row.length).toArray();
        put(calls, name, row, every, -1, -1);
        put(calls, name, row, every, Integer.MIN_VALUE, Integer.MAX_VALUE);
        inPortions(way.title + ", " + name, way.text, calls);
    }

    /** The arguments told as wrong are so (the first of them v, the others u), the rest at their least, and at their most. */
    private static void put(Map<String, Integer> calls, String name, Argument[] row, int[] wrong, int v, int u) {
        for (int end = 0; end < 2; end++) {
            int[] values = new int[row.length];
            for (int k = 0; k < row.length; k++) {
                int[] may = row[k].may;
                values[k] = may.length == 0 ? 0 : may[end == 0 ? 0 : may.length - 1];
            }
            int due = OUTSIDE;
            for (int k = 0; k < wrong.length; k++) {
                values[wrong[k]] = k == 0 ? v : u;
                // Each line tells UNKNOWN ahead of OUTSIDE.
                due = Math.max(due, row[wrong[k]].refusal);
            }
            calls.put(text(name, values), due);
        }
    }

    private static String text(String name, int... values) {
        return name + "(" + Arrays.stream(values).mapToObj(String::valueOf).collect(Collectors.joining(", ")) + ")";
    }

    private static void inPortions(String title, String way, Map<String, Integer> calls) {
        Map<String, Integer> portion = new LinkedHashMap<>();
        for (Map.Entry<String, Integer> call : calls.entrySet()) {
            portion.put(call.getKey(), call.getValue());
            if (portion.size() == PORTION) {
                Twin.unchanged(title, way, portion);
                portion.clear();
            }
        }
        Twin.unchanged(title, way, portion);
    }

    /** "OUTSIDE: the set; FULL." */
    private static void full() {
        Map<String, Integer> calls = new LinkedHashMap<>();
        for (int set : new int[] {0, 1, 48, 63, 510, 511}) {
            calls.put(text("step", set), FULL);
        }
        for (int set : new int[] {-1, 512, Integer.MIN_VALUE, Integer.MAX_VALUE}) {
            calls.put(text("step", set), OUTSIDE);
        }
        Twin.unchanged("full", Ways.FULL, calls);
    }
}
