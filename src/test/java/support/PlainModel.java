import java.util.ArrayList;
import java.util.Arrays;
import java.util.HashMap;
import java.util.HashSet;
import java.util.List;
import java.util.Map;
import java.util.Set;

/**
 * The document told a second time, by tables and lists and without a thought to speed, to set PressGuard against.
 * It shares no code with PressGuard.
 */
final class PlainModel {
    static final int MODE = 0, HANDS = 1, SINCE = 2, MUTING = 3, MUTED_FOR = 4, LEFT = 5, RIGHT = 6, CURTAIN = 7,
            UNLIKE = 8, COMMAND = 9, POSITION = 10, BRAKE = 11, RESET_SEEN = 12;
    /** A row for each MUTING: what it becomes by none, 1 alone, 2 alone, both. */
    private static final String[] MUTING_TABLE = {"0144", "0142", "4132", "0432", "0444"};
    /** A row for each of HANDS: what they become by none, one, both (SPAN aside). */
    private static final String[] HANDS_TABLE = {"012", "012", "032", "033"};

    /** What one TICK came to. */
    private static final class Outcome {
        int[] state;
        boolean danger;
        boolean round;
        int lockCause = -9;
        int lockPosition = -9;
    }

    private int[] settings = {2, 3, 12, 1, 4};
    private int[] stuck = new int[9];
    private int[] valves = {2, 2};
    private int[] state = atFirst();
    private final List<int[]> locks = new ArrayList<>();
    private final Map<Integer, Integer> followed = new HashMap<>();
    private final List<Integer> script = new ArrayList<>();
    private int ticks = 0;
    private int dangers = 0;
    private int rounds = 0;

    PlainModel() {
        Arrays.fill(stuck, 2);
    }

    private static int[] atFirst() {
        int[] first = new int[13];
        first[MODE] = 1;
        return first;
    }

    private static boolean out(int v, int least, int most) {
        return v < least || v > most;
    }

    private Outcome play(int[] from, int told, int[] stuckInputs, int[] stuckValves) {
        Outcome o = new Outcome();
        int[] s = from.clone();
        int[] seen = new int[9];
        for (int k = 0; k < 9; k++) {
            seen[k] = stuckInputs[k] == 2 ? (told >> k & 1) : stuckInputs[k];
        }
        boolean[] on = new boolean[3];
        for (int twin = 0; twin < 3; twin++) {
            boolean unlike = seen[2 * twin] != seen[2 * twin + 1];
            s[LEFT + twin] = unlike ? Math.min(9, from[LEFT + twin] + 1) : 0;
            on[twin] = seen[2 * twin] == 1 && seen[2 * twin + 1] == 1;
        }
        s[MUTING] = MUTING_TABLE[from[MUTING]].charAt(seen[6] + 2 * seen[7]) - '0';
        s[MUTED_FOR] = s[MUTING] == 2 || s[MUTING] == 3 ? from[MUTED_FOR] + 1 : 0;
        if (s[MUTED_FOR] > settings[2]) {
            s[MUTING] = 4;
            s[MUTED_FOR] = 0;
        }
        boolean muted = s[MUTING] == 2 || s[MUTING] == 3;
        int hands = (on[0] ? 1 : 0) + (on[1] ? 1 : 0);
        s[HANDS] = HANDS_TABLE[from[HANDS]].charAt(hands) - '0';
        if (from[HANDS] == 0 && hands == 1) {
            s[SINCE] = 1;
        } else if (from[HANDS] == 1 && hands == 1) {
            s[SINCE] = from[SINCE] + 1;
            if (s[SINCE] > settings[1]) {
                s[HANDS] = 3;
            }
        }
        if (s[HANDS] != 1) {
            s[SINCE] = 0;
        }
        boolean taken = s[HANDS] == 2 && from[HANDS] != 2;
        boolean disobeys = false;
        for (int k = 0; k < 2; k++) {
            disobeys |= stuckValves[k] != 2 && stuckValves[k] != from[COMMAND];
        }
        s[UNLIKE] = disobeys ? Math.min(9, from[UNLIKE] + 1) : 0;
        boolean barred = !on[2] && !muted;
        List<Integer> causes = new ArrayList<>();
        for (int twin = 0; twin < 3; twin++) {
            if (s[LEFT + twin] > settings[0]) {
                causes.add(twin + 1);
            }
        }
        if (s[UNLIKE] > 1) {
            causes.add(4);
        }
        if (s[MUTING] == 4 && from[MODE] == 2) {
            causes.add(5);
        }
        if (!causes.isEmpty() && from[MODE] != 0) {
            s[MODE] = 0;
            o.lockCause = causes.get(0);
            o.lockPosition = from[POSITION];
        } else if (from[MODE] == 0) {
            boolean letGo = from[RESET_SEEN] == 1 && seen[8] == 0;
            causes.remove(Integer.valueOf(5));
            if (letGo && causes.isEmpty() && s[HANDS] == 0 && !barred) {
                s[MODE] = from[POSITION] == 0 ? 1 : 3;
            }
        } else if (from[MODE] == 1) {
            if (taken && !barred) {
                s[MODE] = 2;
            }
        } else if (from[MODE] == 2) {
            if (barred || s[HANDS] != 2) {
                s[MODE] = 3;
            }
        } else if (from[MODE] == 3) {
            if (taken && !barred) {
                s[MODE] = from[POSITION] < settings[4] ? 2 : 4;
            }
        }
        s[COMMAND] = s[MODE] == 2 || s[MODE] == 4 ? 1 : 0;
        boolean open = true;
        for (int k = 0; k < 2; k++) {
            open &= (stuckValves[k] == 2 ? s[COMMAND] : stuckValves[k]) == 1;
        }
        boolean moves = open || from[BRAKE] > 0;
        s[BRAKE] = open ? settings[3] : Math.max(0, from[BRAKE] - 1);
        if (moves) {
            o.danger = from[POSITION] < settings[4] && (told & 48) != 48 && !muted;
            s[POSITION] = (from[POSITION] + 1) % (2 * settings[4]);
            if (s[POSITION] == settings[4] && s[MODE] == 2) {
                s[MODE] = 4;
            }
            if (s[POSITION] == 0) {
                s[BRAKE] = 0;
                o.round = true;
                if (s[MODE] == 3 || s[MODE] == 4) {
                    s[MODE] = 1;
                }
            }
        }
        s[RESET_SEEN] = seen[8];
        o.state = s;
        return o;
    }

    int anew(int patience, int span, int limit, int overrun, int bottom) {
        if (out(patience, 0, 5) || out(span, 1, 9) || out(limit, 1, 30) || out(overrun, 0, 3) || out(bottom, 2, 9)) {
            return -2;
        }
        settings = new int[] {patience, span, limit, overrun, bottom};
        Arrays.fill(stuck, 2);
        Arrays.fill(valves, 2);
        state = atFirst();
        locks.clear();
        followed.clear();
        ticks = 0;
        dangers = 0;
        rounds = 0;
        return 1;
    }

    private static int swap(int[] row, int k, int v) {
        if (out(k, 0, row.length - 1)) {
            return -1;
        }
        if (out(v, 0, 2)) {
            return -2;
        }
        int was = row[k];
        row[k] = v;
        return was;
    }

    int stick(int input, int v) {
        return swap(stuck, input, v);
    }

    int valve(int k, int v) {
        return swap(valves, k, v);
    }

    int tick(int set) {
        return out(set, 0, 511) ? -2 : ticks(set, 1);
    }

    int ticks(int set, int n) {
        if (out(set, 0, 511) || out(n, 0, 60)) {
            return -2;
        }
        for (int k = 0; k < n; k++) {
            Outcome o = play(state, set, stuck, valves);
            ticks++;
            dangers += o.danger ? 1 : 0;
            rounds += o.round ? 1 : 0;
            if (o.lockCause != -9) {
                locks.add(new int[] {o.lockCause, o.lockPosition});
            }
            followed.merge(state[MODE], 1 << o.state[MODE], (a, b) -> a | b);
            state = o.state;
        }
        return state[MODE];
    }

    int now(int what) {
        if (what == 13) {
            return state[MODE] == 0 ? locks.get(locks.size() - 1)[0] : -9;
        }
        return out(what, 0, 12) ? -2 : state[what];
    }

    int setting(int what) {
        return out(what, 0, 4) ? -2 : settings[what];
    }

    int leadsTo(int mode) {
        if (out(mode, 0, 4)) {
            return -2;
        }
        for (int set = 0; set < 512; set++) {
            if (play(state, set, stuck, valves).state[MODE] == mode) {
                return set;
            }
        }
        return -9;
    }

    int locked(int cause, int position) {
        if (out(cause, 1, 5)) {
            return -1;
        }
        if (out(position, 0, 17) && position != -9) {
            return -2;
        }
        return (int) locks.stream().filter(l -> l[0] == cause && (position == -9 || l[1] == position)).count();
    }

    int cause(int k) {
        if (out(k, 0, 4)) {
            return -2;
        }
        List<Integer> order = locks.stream().map(l -> l[0]).distinct().toList();
        return k < order.size() ? order.get(k) : -9;
    }

    int followed(int mode) {
        return out(mode, 0, 4) ? -2 : followed.getOrDefault(mode, 0);
    }

    int places() {
        return (int) locks.stream().map(l -> l[1]).distinct().count();
    }

    int step(int set) {
        if (out(set, 0, 511)) {
            return -2;
        }
        if (script.size() == 32) {
            return -4;
        }
        script.add(set);
        return script.size();
    }

    int wipe() {
        int had = script.size();
        script.clear();
        return had;
    }

    int stepAt(int k) {
        return out(k, 0, script.size() - 1) ? -1 : script.get(k);
    }

    private int[] trialOf(int input, int v, int from) {
        int[] none = {2, 2, 2, 2, 2, 2, 2, 2, 2};
        int[] one = none.clone();
        one[input] = v;
        int[] answers = {0, -9, -9, 1, 0};
        int[] s = atFirst();
        for (int k = 0; k < script.size(); k++) {
            Outcome o = play(s, script.get(k), k >= from ? one : none, new int[] {2, 2});
            s = o.state;
            answers[0] += o.danger ? 1 : 0;
            answers[4] += o.round ? 1 : 0;
            if (o.lockCause != -9 && answers[1] == -9) {
                answers[1] = k + 1;
                answers[2] = o.lockCause;
            }
        }
        answers[3] = s[MODE];
        return answers;
    }

    int trial(int input, int v, int from, int what) {
        if (out(input, 0, 8)) {
            return -1;
        }
        if (out(v, 0, 1) || out(from, 0, script.size()) || out(what, 0, 4)) {
            return -2;
        }
        return trialOf(input, v, from)[what];
    }

    int trials(int what) {
        if (out(what, 0, 5)) {
            return -2;
        }
        int[] answers = {0, 0, 0, -9, 0, 0};
        int sound = trialOf(0, 0, script.size())[4];
        for (int input = 0; input < 9; input++) {
            for (int v = 0; v < 2; v++) {
                for (int from = 0; from < script.size(); from++) {
                    int[] t = trialOf(input, v, from);
                    answers[0]++;
                    answers[1] += t[0] > 0 ? 1 : 0;
                    answers[2] += t[1] != -9 ? 1 : 0;
                    int stuckWith = from + 1;
                    if (t[1] != -9 && t[1] >= stuckWith) {
                        answers[3] = Math.max(answers[3], t[1] - stuckWith + 1);
                    }
                    answers[4] = Math.max(answers[4], t[0]);
                    answers[5] += t[4] < sound ? 1 : 0;
                }
            }
        }
        return answers[what];
    }

    int reach(int set, int may, int n, int what) {
        if (out(set, 0, 511) || out(may, 0, 511) || Integer.bitCount(may) > 2 || out(n, 0, 5)) {
            return -2;
        }
        if (what != 0 && what != 1 && out(what, 10, 14)) {
            return -2;
        }
        Set<String> states = new HashSet<>();
        int[] fewest = {-9, -9, -9, -9, -9};
        int most = 0;
        Map<String, int[]> layer = new HashMap<>();
        Map<String, Integer> worst = new HashMap<>();
        layer.put(Arrays.toString(state), state);
        worst.put(Arrays.toString(state), 0);
        for (int depth = 0; depth <= n; depth++) {
            Map<String, int[]> nextLayer = new HashMap<>();
            Map<String, Integer> nextWorst = new HashMap<>();
            for (Map.Entry<String, int[]> e : layer.entrySet()) {
                int mode = e.getValue()[MODE];
                states.add(e.getKey());
                fewest[mode] = fewest[mode] == -9 ? depth : fewest[mode];
                most = Math.max(most, worst.get(e.getKey()));
                for (int by = 0; by < 512; by++) {
                    if ((by & ~may) == (set & ~may)) {
                        Outcome o = play(e.getValue(), by, stuck, valves);
                        String name = Arrays.toString(o.state);
                        nextLayer.put(name, o.state);
                        nextWorst.merge(name, worst.get(e.getKey()) + (o.danger ? 1 : 0), Math::max);
                    }
                }
            }
            layer = nextLayer;
            worst = nextWorst;
        }
        return what == 0 ? states.size() : what == 1 ? most : fewest[what - 10];
    }

    int many(int what) {
        int stuckInputs = (int) Arrays.stream(stuck).filter(v -> v != 2).count();
        int stuckValves = (int) Arrays.stream(valves).filter(v -> v != 2).count();
        int[] answers = {ticks, dangers, rounds, script.size(), stuckInputs, stuckValves, locks.size()};
        return out(what, 0, 6) ? -2 : answers[what];
    }
}
