import java.util.ArrayList;
import java.util.Arrays;
import java.util.HashSet;
import java.util.List;
import java.util.Set;

/** Promise 19 (reach). */
public final class ReachTest {
    public static void main(String[] args) {
        Check.run("no ticks", "reach(HANDS+CLEAR, 0, 0, 0) = 1; reach(HANDS+CLEAR, 3, 0, 0) = 1; reach(0, 0, 0, 1) = 0; reach(0, 0, 0, 11) = 0; reach(0, 0, 0, 10) = NONE; reach(0, 0, 0, 12) = NONE");
        Check.run("one way", """
                reach(0, 0, 5, 0) = 1                                   # nothing changes
                reach(HANDS+CLEAR, 0, 1, 0) = 2; reach(HANDS+CLEAR, 0, 3, 0) = 4; reach(HANDS+CLEAR, 0, 5, 0) = 6
                reach(HANDS+CLEAR, 0, 5, 12) = 1; reach(HANDS+CLEAR, 0, 5, 14) = 4; reach(HANDS+CLEAR, 0, 3, 14) = NONE
                reach(HANDS+CLEAR, 0, 5, 11) = 0; reach(HANDS+CLEAR, 0, 5, 13) = NONE; reach(HANDS+CLEAR, 0, 5, 10) = NONE; reach(HANDS+CLEAR, 0, 5, 1) = 0
                """);
        Check.run("one input may", """
                reach(CLEAR, RESET, 1, 0) = 2; reach(CLEAR, RESET, 5, 0) = 2; reach(CLEAR+RESET, RESET, 5, 0) = 2
                reach(CLEAR, LEFTA, 1, 0) = 2; reach(CLEAR, LEFTA, 2, 0) = 3; reach(CLEAR, LEFTA, 5, 10) = 3; reach(CLEAR, LEFTA, 2, 10) = NONE
                reach(CLEAR, LEFTA, 3, 0) = 4; reach(CLEAR+LEFTA, LEFTA, 3, 0) = 4
                """);
        Check.run("two inputs may", "reach(CLEAR, RESET+LEFTA, 1, 0) = 4; reach(CLEAR, 3, 1, 0) = 3; reach(0, CLEAR, 1, 0) = 2; reach(HANDS, CLEAR, 1, 12) = 1; reach(HANDS+CLEAR, CLEAR, 3, 13) = 2");
        dangers();
        Check.run("stuck stays so", "stick(0, 0) = 2; reach(HANDS+CLEAR, 0, 5, 12) = NONE; reach(HANDS+CLEAR, 0, 3, 10) = 3; valve(0, 1) = 2; valve(1, 1) = 2; reach(CLEAR, 0, 2, 10) = 2");
        Check.run("from where it is", "ticks(HANDS+CLEAR, 3) = STROKE; reach(HANDS+CLEAR, 0, 5, 14) = 1; reach(HANDS+CLEAR, 0, 5, 11) = 5; reach(HANDS+CLEAR, 0, 4, 11) = NONE; reach(CLEAR, 0, 1, 13) = 1; reach(CLEAR, 0, 1, 12) = 0");
        Check.run("the cause is no state", "anew(0, 3, 12, 1, 4) = 1; reach(CLEAR, 0, 3, 0) = 1; tick(LEFTA+CLEAR) = LOCKED; reach(CLEAR, 0, 3, 0) = 2; reach(CLEAR, 0, 5, 10) = 0");
        Check.run("nothing is changed", """
                tick(HANDS+CLEAR) = STROKE; reach(0, 3, 5, 1) = 1
                now = STROKE 2 0 0 0 0 0 0 0 1 1 1 0 NONE
                many = 1 0 0 0 0 0 0
                followed = 0 4 0 0 0; tick(HANDS+CLEAR) = STROKE; now(10) = 2
                """);
        asTicksThemselvesTell();
        refusals();
        Check.end();
    }

    private static void dangers() {
        Check.run("dangers", """
                tick(HANDS+CLEAR) = STROKE
                reach(HANDS, 0, 0, 1) = 0; reach(HANDS, 0, 1, 1) = 1; reach(HANDS, 0, 5, 1) = 1
                tick(HANDS) = STOPPED; many(1) = 1
                reach(CLEAR, 0, 5, 1) = 0                               # those ahead do not count
                """);
        Check.run("more dangers on a longer way", """
                anew(2, 3, 12, 3, 9) = 1; tick(HANDS+CLEAR) = STROKE
                reach(CLEAR, 16, 1, 1) = 1; reach(CLEAR, 16, 2, 1) = 2; reach(CLEAR, 16, 3, 1) = 3; reach(CLEAR, 16, 4, 1) = 3
                """);
        Check.run("as told, not as seen", "stick(4, 1) = 2; stick(5, 1) = 2; reach(HANDS, CLEAR, 5, 1) = 4; reach(HANDS, 0, 3, 1) = 3; reach(HANDS+CLEAR, 0, 3, 1) = 0; reach(HANDS+CLEAR, CLEAR, 5, 0) = 6");
    }

    private static void refusals() {
        Check.run("refusals", """
                reach(-1, 0, 1, 0) = OUTSIDE; reach(512, 0, 1, 0) = OUTSIDE; reach(MIN, 0, 1, 0) = OUTSIDE; reach(MAX, 0, 1, 0) = OUTSIDE
                reach(0, -1, 1, 0) = OUTSIDE; reach(0, 512, 1, 0) = OUTSIDE; reach(0, MIN, 1, 0) = OUTSIDE; reach(0, 1024, 1, 0) = OUTSIDE
                reach(0, 7, 1, 0) = OUTSIDE; reach(0, 511, 1, 0) = OUTSIDE; reach(0, 273, 0, 0) = OUTSIDE
                reach(0, 0, -1, 0) = OUTSIDE; reach(0, 0, 6, 0) = OUTSIDE; reach(0, 0, MAX, 0) = OUTSIDE; reach(0, 0, MIN, 0) = OUTSIDE
                reach(0, 0, 1, -1) = OUTSIDE; reach(0, 0, 1, 2) = OUTSIDE; reach(0, 0, 1, 9) = OUTSIDE; reach(0, 0, 1, 15) = OUTSIDE
                reach(0, 0, 1, MIN) = OUTSIDE; reach(0, 0, 1, MAX) = OUTSIDE
                reach(511, 384, 5, 11) = 0; reach(511, 257, 5, 14) = NONE
                """);
    }

    private static final int[][] BEFORE = {{}, {63}, {63, 63}, {63, 31, 48}, {127, 255}, {51, 51}, {31, 31, 31}, {31, 31, 31, 304}};
    private static final int[] BY = {0, 48, 63, 51, 63 + 128, 63 + 192, 304};
    private static final int[][] SETTINGS = {{2, 3, 12, 2, 9}, {1, 2, 2, 3, 2}};

    /** Every way of the TICKS is gone on an object of its own, and its STATES are told by now(). */
    private static void asTicksThemselvesTell() {
        for (int[] settings : SETTINGS) {
            for (int valve = 0; valve <= 2; valve++) {
                for (int[] before : BEFORE) {
                    for (int a = 0; a < 9; a++) {
                        for (int b = a; b < 9; b++) {
                            int by = BY[(a * 7 + b * 3 + before.length + valve) % BY.length];
                            compare(settings, valve, before, by, 1 << a | 1 << b);
                        }
                    }
                }
            }
        }
    }

    private static PressGuard replay(int[] settings, int valve, int[] before, int[] sets) {
        PressGuard guard = new PressGuard();
        guard.anew(settings[0], settings[1], settings[2], settings[3], settings[4]);
        for (int set : before) {
            guard.tick(set);
        }
        guard.valve(0, valve);
        guard.valve(1, valve);
        for (int set : sets) {
            guard.tick(set);
        }
        return guard;
    }

    private static void compare(int[] settings, int valve, int[] before, int set, int may) {
        List<int[]> ways = new ArrayList<>();
        ways.add(new int[0]);
        Set<List<Integer>> states = new HashSet<>();
        PressGuard start = replay(settings, valve, before, new int[0]);
        int most = 0;
        int[] fewest = {-9, -9, -9, -9, -9};
        for (int k = 0; k < ways.size(); k++) {
            int[] way = ways.get(k);
            PressGuard there = replay(settings, valve, before, way);
            List<Integer> state = new ArrayList<>();
            for (int what = 0; what <= 12; what++) {
                state.add(there.now(what));
            }
            states.add(state);
            most = Math.max(most, there.many(1) - start.many(1));
            int mode = there.now(0);
            fewest[mode] = fewest[mode] == -9 ? way.length : fewest[mode];
            for (int sub = 0; way.length < 3 && sub < 512; sub++) {
                if ((sub & ~may) == 0) {
                    int[] longer = Arrays.copyOf(way, way.length + 1);
                    longer[way.length] = set & ~may | sub;
                    ways.add(longer);
                }
            }
        }
        String title = Arrays.toString(settings) + " valves " + valve + " " + Arrays.toString(before) + " reach(" + set + ", " + may + ", 3, ";
        Check.due(title + "0)", start.reach(set, may, 3, 0), states.size());
        Check.due(title + "1)", start.reach(set, may, 3, 1), most);
        for (int mode = 0; mode < 5; mode++) {
            Check.due(title + (10 + mode) + ")", start.reach(set, may, 3, 10 + mode), fewest[mode]);
        }
    }
}
