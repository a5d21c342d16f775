import java.util.Arrays;

/** The guard of a press, as ../shared/DOC.md tells it; its numbered promises are the public methods. */
public final class PressGuard {
    public static final int UNKNOWN = -1, OUTSIDE = -2, STATE = -3, FULL = -4, NONE = -9;

    private static final int INPUTS = 9;
    private static final int LAST_SET = 511;
    private static final int LEFT_A = 0, RIGHT_A = 2, CURTAIN_A = 4, MUTE_1 = 6, RESET = 8;
    private static final int FREE = 2;

    private static final int LOCKED = 0, READY = 1, STROKE = 2, STOPPED = 3, RETURN = 4;
    private static final int MODES = 5;

    private static final int NO_CAUSE = 0, LEFT_APART = 1, RIGHT_APART = 2, CURTAIN_APART = 3;
    private static final int VALVES_UNLIKE = 4, MUTING_WRONG = 5;
    private static final int CAUSES = 5;

    private static final int HANDS_OFF = 0, HANDS_ONE = 1, HANDS_BOTH = 2, HANDS_WRONG = 3;
    private static final int NOT_MUTING = 0, MUTE_BEGUN = 1, MUTE_BOTH = 2, MUTE_LEAVING = 3, MUTE_WRONG = 4;

    private static final int COUNT_LIMIT = 9;
    private static final int POSITIONS = 18;
    private static final int MOST_STEPS = 32;
    private static final int MOST_TICKS = 60;
    private static final int MOST_REACH = 5;
    private static final int MOST_MAY = 2;

    private final Settings settings = new Settings();
    private final Faults faults = new Faults();
    private final Press press = new Press(settings, faults);
    private final Press attempt = new Press(settings, faults);
    private final Notes notes = new Notes();
    private final Script script = new Script();
    private final Trial stuckTrial = new Trial(settings);
    private final TrialSums sums = new TrialSums();
    private final Search search = new Search(settings, faults);
    private boolean sumsHold = false;

    public PressGuard() {
    }

    public int anew(int patience, int span, int limit, int overrun, int bottom) {
        boolean asTold = within(patience, 0, 5) && within(span, 1, 9) && within(limit, 1, 30)
                && within(overrun, 0, 3) && within(bottom, 2, 9);
        if (!asTold) {
            return OUTSIDE;
        }
        settings.become(patience, span, limit, overrun, bottom);
        faults.clear();
        press.begin();
        notes.clear();
        sumsHold = false;
        return 1;
    }

    public int stick(int input, int v) {
        if (!within(input, 0, INPUTS - 1)) {
            return UNKNOWN;
        }
        if (!within(v, 0, FREE)) {
            return OUTSIDE;
        }
        int was = faults.inputStuckAt(input);
        faults.setInput(input, v);
        return was;
    }

    public int valve(int k, int v) {
        if (!within(k, 0, 1)) {
            return UNKNOWN;
        }
        if (!within(v, 0, FREE)) {
            return OUTSIDE;
        }
        int was = faults.valveStuckAt(k);
        faults.setValve(k, v);
        return was;
    }

    public int tick(int set) {
        if (!isSet(set)) {
            return OUTSIDE;
        }
        advanceNoted(set);
        return press.mode;
    }

    public int ticks(int set, int n) {
        if (!isSet(set) || !within(n, 0, MOST_TICKS)) {
            return OUTSIDE;
        }
        for (int k = 0; k < n; k++) {
            advanceNoted(set);
        }
        return press.mode;
    }

    public int now(int what) {
        return press.part(what);
    }

    public int setting(int what) {
        return settings.part(what);
    }

    public int leadsTo(int mode) {
        if (!within(mode, 0, MODES - 1)) {
            return OUTSIDE;
        }
        for (int set = 0; set <= LAST_SET; set++) {
            attempt.copyFrom(press);
            attempt.advance(set);
            if (attempt.mode == mode) {
                return set;
            }
        }
        return NONE;
    }

    public int locked(int cause, int position) {
        if (!within(cause, 1, CAUSES)) {
            return UNKNOWN;
        }
        if (position == NONE) {
            return notes.locksBy(cause);
        }
        if (!within(position, 0, POSITIONS - 1)) {
            return OUTSIDE;
        }
        return notes.locksAt(cause, position);
    }

    public int cause(int k) {
        if (!within(k, 0, CAUSES - 1)) {
            return OUTSIDE;
        }
        return notes.causeInOrder(k);
    }

    public int followed(int mode) {
        if (!within(mode, 0, MODES - 1)) {
            return OUTSIDE;
        }
        return notes.modesBehind(mode);
    }

    public int places() {
        return Integer.bitCount(notes.lockPlaces);
    }

    public int step(int set) {
        if (!isSet(set)) {
            return OUTSIDE;
        }
        if (script.count >= MOST_STEPS) {
            return FULL;
        }
        script.append(set);
        sumsHold = false;
        return script.count;
    }

    public int wipe() {
        int had = script.count;
        script.count = 0;
        sumsHold = false;
        return had;
    }

    public int stepAt(int k) {
        if (!within(k, 0, script.count - 1)) {
            return UNKNOWN;
        }
        return script.setAt(k);
    }

    public int trial(int input, int v, int from, int what) {
        if (!within(input, 0, INPUTS - 1)) {
            return UNKNOWN;
        }
        if (!within(v, 0, 1) || !within(from, 0, script.count) || !within(what, 0, 4)) {
            return OUTSIDE;
        }
        stuckTrial.run(script, input, v, from);
        return stuckTrial.part(what);
    }

    public int trials(int what) {
        if (!within(what, 0, 5)) {
            return OUTSIDE;
        }
        if (!sumsHold) {
            sumUpTrials();
            sumsHold = true;
        }
        return sums.part(what);
    }

    public int reach(int set, int may, int n, int what) {
        if (!isSet(set) || !isSet(may) || Integer.bitCount(may) > MOST_MAY || !within(n, 0, MOST_REACH)) {
            return OUTSIDE;
        }
        if (!within(what, 0, 1) && !within(what, 10, 10 + MODES - 1)) {
            return OUTSIDE;
        }
        search.run(press, set, may, n);
        return search.part(what);
    }

    public int many(int what) {
        switch (what) {
            case 0: return notes.tickCount;
            case 1: return press.dangers;
            case 2: return press.rounds;
            case 3: return script.count;
            case 4: return Integer.bitCount(faults.stuckOff | faults.stuckOn);
            case 5: return faults.valvesStuck();
            case 6: return notes.lockCount;
            default: return OUTSIDE;
        }
    }

    private void advanceNoted(int set) {
        int modeAhead = press.mode;
        int positionAhead = press.position;
        press.advance(set);
        notes.addTick(modeAhead, press.mode);
        if (modeAhead != LOCKED && press.mode == LOCKED) {
            notes.addLock(press.lockedBy, positionAhead);
        }
    }

    private void sumUpTrials() {
        stuckTrial.run(script, 0, 0, script.count);
        sums.begin(stuckTrial.press.rounds);
        for (int input = 0; input < INPUTS; input++) {
            sumUpTrialsOf(input, 0);
            sumUpTrialsOf(input, 1);
        }
    }

    private void sumUpTrialsOf(int input, int v) {
        stuckTrial.run(script, input, v, script.count);
        for (int from = script.count - 1; from >= 0; from--) {
            // An INPUT that this STEP tells as v anyway: the TRIAL goes just like the one from the STEP behind on.
            if (bit(script.setAt(from), input) != v) {
                stuckTrial.run(script, input, v, from);
            }
            sums.add(stuckTrial, from);
        }
    }

    private static boolean within(int v, int least, int most) {
        return v >= least && v <= most;
    }

    private static boolean isSet(int set) {
        return within(set, 0, LAST_SET);
    }

    private static int bit(int set, int input) {
        return (set >> input) & 1;
    }

    /** How many of two INPUTS, a and the one behind it, are in a set. */
    private static int pairCount(int set, int a) {
        return bit(set, a) + bit(set, a + 1);
    }

    private static final class Settings {
        int patience = 2;
        int span = 3;
        int limit = 12;
        int overrun = 1;
        int bottom = 4;

        void become(int newPatience, int newSpan, int newLimit, int newOverrun, int newBottom) {
            patience = newPatience;
            span = newSpan;
            limit = newLimit;
            overrun = newOverrun;
            bottom = newBottom;
        }

        int part(int what) {
            switch (what) {
                case 0: return patience;
                case 1: return span;
                case 2: return limit;
                case 3: return overrun;
                case 4: return bottom;
                default: return OUTSIDE;
            }
        }
    }

    /** What is STUCK: INPUTS as two sets that share none, VALVES at 0, 1 or FREE. */
    private static final class Faults {
        int stuckOff = 0;
        int stuckOn = 0;
        int firstValve = FREE;
        int secondValve = FREE;

        void clear() {
            stuckOff = 0;
            stuckOn = 0;
            firstValve = FREE;
            secondValve = FREE;
        }

        int inputStuckAt(int input) {
            if (bit(stuckOn, input) == 1) {
                return 1;
            }
            return bit(stuckOff, input) == 1 ? 0 : FREE;
        }

        void setInput(int input, int v) {
            int mark = 1 << input;
            stuckOff = v == 0 ? stuckOff | mark : stuckOff & ~mark;
            stuckOn = v == 1 ? stuckOn | mark : stuckOn & ~mark;
        }

        int valveStuckAt(int k) {
            return k == 0 ? firstValve : secondValve;
        }

        void setValve(int k, int v) {
            if (k == 0) {
                firstValve = v;
            } else {
                secondValve = v;
            }
        }

        int valvesStuck() {
            return (firstValve == FREE ? 0 : 1) + (secondValve == FREE ? 0 : 1);
        }

        int seenOf(int told) {
            return (told | stuckOn) & ~stuckOff;
        }

        boolean valvesObey(int command) {
            return valveIs(firstValve, command) == command && valveIs(secondValve, command) == command;
        }

        boolean bothOpen(int command) {
            return valveIs(firstValve, command) == 1 && valveIs(secondValve, command) == 1;
        }

        private static int valveIs(int stuckAt, int command) {
            return stuckAt == FREE ? command : stuckAt;
        }
    }

    /** One press: its STATE, by which CAUSE it is LOCKED, and its DANGERS and ROUNDS since it began. */
    private static final class Press {
        private final Settings settings;
        private final Faults faults;
        int mode = READY;
        int hands = HANDS_OFF;
        int since = 0;
        int muting = NOT_MUTING;
        int mutedFor = 0;
        int leftApart = 0;
        int rightApart = 0;
        int curtainApart = 0;
        int unlike = 0;
        int command = 0;
        int position = 0;
        int brake = 0;
        int resetSeen = 0;
        int lockedBy = NO_CAUSE;
        int dangers = 0;
        int rounds = 0;

        Press(Settings settings, Faults faults) {
            this.settings = settings;
            this.faults = faults;
        }

        void begin() {
            mode = READY;
            hands = HANDS_OFF;
            since = 0;
            muting = NOT_MUTING;
            mutedFor = 0;
            leftApart = 0;
            rightApart = 0;
            curtainApart = 0;
            unlike = 0;
            command = 0;
            position = 0;
            brake = 0;
            resetSeen = 0;
            lockedBy = NO_CAUSE;
            dangers = 0;
            rounds = 0;
        }

        void copyFrom(Press other) {
            mode = other.mode;
            hands = other.hands;
            since = other.since;
            muting = other.muting;
            mutedFor = other.mutedFor;
            leftApart = other.leftApart;
            rightApart = other.rightApart;
            curtainApart = other.curtainApart;
            unlike = other.unlike;
            command = other.command;
            position = other.position;
            brake = other.brake;
            resetSeen = other.resetSeen;
            lockedBy = other.lockedBy;
            dangers = other.dangers;
            rounds = other.rounds;
        }

        int part(int what) {
            switch (what) {
                case 0: return mode;
                case 1: return hands;
                case 2: return since;
                case 3: return muting;
                case 4: return mutedFor;
                case 5: return leftApart;
                case 6: return rightApart;
                case 7: return curtainApart;
                case 8: return unlike;
                case 9: return command;
                case 10: return position;
                case 11: return brake;
                case 12: return resetSeen;
                case 13: return mode == LOCKED ? lockedBy : NONE;
                default: return OUTSIDE;
            }
        }

        /** The STATE as one number, each STATE another one; never 0, which marks a free place in a Search. */
        long stateNumber() {
            long n = 1;
            n = n * MODES + mode;
            n = n * 4 + hands;
            n = n * 10 + since;
            n = n * 5 + muting;
            n = n * 31 + mutedFor;
            n = n * 10 + leftApart;
            n = n * 10 + rightApart;
            n = n * 10 + curtainApart;
            n = n * 10 + unlike;
            n = n * 2 + command;
            n = n * POSITIONS + position;
            n = n * 4 + brake;
            return n * 2 + resetSeen;
        }

        /** A TICK; its parts stand in the document's order, as each looks at what those ahead of it left. */
        void advance(int told) {
            int seen = faults.seenOf(told);
            leftApart = apartThen(leftApart, seen, LEFT_A);
            rightApart = apartThen(rightApart, seen, RIGHT_A);
            curtainApart = apartThen(curtainApart, seen, CURTAIN_A);
            moveMuting(seen);
            int handsAhead = hands;
            moveHands(seen);
            boolean taken = hands == HANDS_BOTH && handsAhead != HANDS_BOTH;
            unlike = faults.valvesObey(command) ? 0 : oneMore(unlike);
            boolean barred = pairCount(seen, CURTAIN_A) != 2 && !isMuted();
            changeMode(seen, taken, barred);
            command = mode == STROKE || mode == RETURN ? 1 : 0;
            moveSlide(told);
            resetSeen = bit(seen, RESET);
        }

        private static int apartThen(int apart, int seen, int a) {
            return pairCount(seen, a) == 1 ? oneMore(apart) : 0;
        }

        private static int oneMore(int count) {
            return Math.min(count + 1, COUNT_LIMIT);
        }

        private boolean isMuted() {
            return muting == MUTE_BOTH || muting == MUTE_LEAVING;
        }

        private void moveMuting(int seen) {
            muting = mutingThen(bit(seen, MUTE_1) == 1, bit(seen, MUTE_1 + 1) == 1);
            mutedFor = isMuted() ? mutedFor + 1 : 0;
            if (mutedFor > settings.limit) {
                muting = MUTE_WRONG;
                mutedFor = 0;
            }
        }

        private int mutingThen(boolean first, boolean second) {
            if (first && second) {
                return muting == NOT_MUTING || muting == MUTE_WRONG ? MUTE_WRONG : MUTE_BOTH;
            }
            if (first) {
                return muting == MUTE_LEAVING || muting == MUTE_WRONG ? MUTE_WRONG : MUTE_BEGUN;
            }
            if (second) {
                return isMuted() ? MUTE_LEAVING : MUTE_WRONG;
            }
            return muting == MUTE_BOTH ? MUTE_WRONG : NOT_MUTING;
        }

        private void moveHands(int seen) {
            int on = pairCount(seen, LEFT_A) / 2 + pairCount(seen, RIGHT_A) / 2;
            int sinceThen = hands == HANDS_ONE ? since + 1 : 1;
            hands = handsThen(on, sinceThen);
            since = hands == HANDS_ONE ? sinceThen : 0;
        }

        private int handsThen(int on, int sinceThen) {
            if (on == 0) {
                return HANDS_OFF;
            }
            if (hands == HANDS_WRONG) {
                return HANDS_WRONG;
            }
            if (on == 2) {
                return HANDS_BOTH;
            }
            return hands == HANDS_BOTH || sinceThen > settings.span ? HANDS_WRONG : HANDS_ONE;
        }

        private int leastCause() {
            if (leftApart > settings.patience) {
                return LEFT_APART;
            }
            if (rightApart > settings.patience) {
                return RIGHT_APART;
            }
            if (curtainApart > settings.patience) {
                return CURTAIN_APART;
            }
            if (unlike > 1) {
                return VALVES_UNLIKE;
            }
            return muting == MUTE_WRONG && mode == STROKE ? MUTING_WRONG : NO_CAUSE;
        }

        private void changeMode(int seen, boolean taken, boolean barred) {
            int least = leastCause();
            boolean mayStart = taken && !barred;
            if (mode == LOCKED) {
                boolean resetLetGo = resetSeen == 1 && bit(seen, RESET) == 0;
                if (resetLetGo && least == NO_CAUSE && hands == HANDS_OFF && !barred) {
                    mode = position == 0 ? READY : STOPPED;
                }
            } else if (least != NO_CAUSE) {
                mode = LOCKED;
                lockedBy = least;
            } else if (mode == READY && mayStart) {
                mode = STROKE;
            } else if (mode == STROKE && (barred || hands != HANDS_BOTH)) {
                mode = STOPPED;
            } else if (mode == STOPPED && mayStart) {
                mode = position < settings.bottom ? STROKE : RETURN;
            }
        }

        private void moveSlide(int told) {
            if (faults.bothOpen(command)) {
                brake = settings.overrun;
            } else if (brake > 0) {
                brake--;
            } else {
                return;
            }
            if (position < settings.bottom && pairCount(told, CURTAIN_A) != 2 && !isMuted()) {
                dangers++;
            }
            position++;
            if (position == settings.bottom && mode == STROKE) {
                mode = RETURN;
            }
            if (position >= 2 * settings.bottom) {
                arriveAtTop();
            }
        }

        private void arriveAtTop() {
            position = 0;
            brake = 0;
            rounds++;
            if (mode == RETURN || mode == STOPPED) {
                mode = READY;
            }
        }
    }

    /** What is NOTED since anew(). */
    private static final class Notes {
        private final int[] lockTable = new int[CAUSES * POSITIONS];
        private final int[] causeOrder = new int[CAUSES];
        private final int[] behind = new int[MODES];
        private int causesKnown = 0;
        int lockPlaces = 0;
        int lockCount = 0;
        int tickCount = 0;

        void clear() {
            Arrays.fill(lockTable, 0);
            Arrays.fill(causeOrder, 0);
            Arrays.fill(behind, 0);
            causesKnown = 0;
            lockPlaces = 0;
            lockCount = 0;
            tickCount = 0;
        }

        void addTick(int modeAhead, int modeBehind) {
            tickCount++;
            if (within(modeAhead, 0, MODES - 1)) {
                behind[modeAhead] |= 1 << modeBehind;
            }
        }

        void addLock(int by, int position) {
            if (!within(by, 1, CAUSES) || !within(position, 0, POSITIONS - 1)) {
                return;
            }
            if (locksBy(by) == 0 && causesKnown < CAUSES) {
                causeOrder[causesKnown] = by;
                causesKnown++;
            }
            lockTable[(by - 1) * POSITIONS + position]++;
            lockPlaces |= 1 << position;
            lockCount++;
        }

        int locksAt(int by, int position) {
            if (!within(by, 1, CAUSES) || !within(position, 0, POSITIONS - 1)) {
                return 0;
            }
            return lockTable[(by - 1) * POSITIONS + position];
        }

        int locksBy(int by) {
            int sum = 0;
            for (int position = 0; position < POSITIONS; position++) {
                sum += locksAt(by, position);
            }
            return sum;
        }

        int causeInOrder(int k) {
            return k >= 0 && k < causesKnown && k < CAUSES ? causeOrder[k] : NONE;
        }

        int modesBehind(int mode) {
            return within(mode, 0, MODES - 1) ? behind[mode] : 0;
        }
    }

    private static final class Script {
        private final int[] sets = new int[MOST_STEPS];
        int count = 0;

        void append(int set) {
            if (within(count, 0, MOST_STEPS - 1)) {
                sets[count] = set;
                count++;
            }
        }

        int setAt(int k) {
            return within(k, 0, MOST_STEPS - 1) ? sets[k] : 0;
        }
    }

    /** A TRIAL of a Script; it is run again and again in the same room. */
    private static final class Trial {
        private final Faults faults = new Faults();
        final Press press;
        int firstLock = NONE;
        int firstCause = NONE;

        Trial(Settings settings) {
            press = new Press(settings, faults);
        }

        void run(Script script, int input, int v, int from) {
            faults.clear();
            press.begin();
            firstLock = NONE;
            firstCause = NONE;
            for (int k = 0; k < script.count; k++) {
                if (k == from) {
                    faults.setInput(input, v);
                }
                press.advance(script.setAt(k));
                if (firstLock == NONE && press.mode == LOCKED) {
                    firstLock = k + 1;
                    firstCause = press.lockedBy;
                }
            }
        }

        int part(int what) {
            switch (what) {
                case 0: return press.dangers;
                case 1: return firstLock;
                case 2: return firstCause;
                case 3: return press.mode;
                case 4: return press.rounds;
                default: return OUTSIDE;
            }
        }
    }

    /** What all TRIALS with one INPUT STUCK come to together. */
    private static final class TrialSums {
        private int soundRounds = 0;
        private int count = 0;
        private int dangerous = 0;
        private int everLocked = 0;
        private int longestToLock = NONE;
        private int mostDangers = 0;
        private int fewerRounds = 0;

        void begin(int roundsWithNoneStuck) {
            soundRounds = roundsWithNoneStuck;
            count = 0;
            dangerous = 0;
            everLocked = 0;
            longestToLock = NONE;
            mostDangers = 0;
            fewerRounds = 0;
        }

        void add(Trial t, int from) {
            count++;
            if (t.press.dangers > 0) {
                dangerous++;
            }
            if (t.firstLock != NONE) {
                everLocked++;
            }
            // firstLock counts TICKS from 1, from counts STEPS from 0: the difference has both ends in it.
            if (t.firstLock > from) {
                longestToLock = Math.max(longestToLock, t.firstLock - from);
            }
            mostDangers = Math.max(mostDangers, t.press.dangers);
            if (t.press.rounds < soundRounds) {
                fewerRounds++;
            }
        }

        int part(int what) {
            switch (what) {
                case 0: return count;
                case 1: return dangerous;
                case 2: return everLocked;
                case 3: return longestToLock;
                case 4: return mostDangers;
                case 5: return fewerRounds;
                default: return OUTSIDE;
            }
        }
    }

    /** All that a few TICKS can come to: one Press for each depth, and a hash table of the STATES met. */
    private static final class Search {
        // 5 TICKS of 4 sets each meet 1365 STATES at most.
        private static final int TABLE_BITS = 11;
        private static final int TABLE_SIZE = 2048;

        private final Press[] path = new Press[MOST_REACH + 1];
        private final long[] table = new long[TABLE_SIZE];
        private final int[] fewest = new int[MODES];
        private final int[] choices = new int[1 << MOST_MAY];
        private int choiceCount = 0;
        private int states = 0;
        private int mostDangers = 0;

        Search(Settings settings, Faults faults) {
            for (int depth = 0; depth <= MOST_REACH; depth++) {
                path[depth] = new Press(settings, faults);
            }
        }

        void run(Press start, int set, int may, int n) {
            Arrays.fill(table, 0L);
            Arrays.fill(fewest, NONE);
            states = 0;
            mostDangers = 0;
            chooseSets(set, may);
            Press first = path[0];
            if (first == null) {
                return;
            }
            first.copyFrom(start);
            first.dangers = 0;
            goOn(this, 0, n);
        }

        int part(int what) {
            if (what == 0) {
                return states;
            }
            if (what == 1) {
                return mostDangers;
            }
            return within(what, 10, 10 + MODES - 1) ? fewest[what - 10] : OUTSIDE;
        }

        private void chooseSets(int set, int may) {
            int low = may & -may;
            int high = may & ~low;
            int rest = set & ~may;
            choices[0] = rest;
            choices[1] = rest | low;
            choices[2] = rest | high;
            choices[3] = rest | may;
            choiceCount = 1 << Math.min(Integer.bitCount(may), MOST_MAY);
        }

        private static void goOn(Search s, int depth, int n) {
            if (!within(depth, 0, MOST_REACH)) {
                return;
            }
            Press here = s.path[depth];
            if (here == null) {
                return;
            }
            s.meet(here, depth);
            if (depth >= n || depth >= MOST_REACH) {
                return;
            }
            Press next = s.path[depth + 1];
            if (next == null) {
                return;
            }
            for (int k = 0; k < s.choiceCount && k < s.choices.length; k++) {
                next.copyFrom(here);
                next.advance(s.choices[k]);
                goOn(s, depth + 1, n);
            }
        }

        private void meet(Press here, int depth) {
            addState(here.stateNumber());
            mostDangers = Math.max(mostDangers, here.dangers);
            int mode = here.mode;
            if (within(mode, 0, MODES - 1) && (fewest[mode] == NONE || depth < fewest[mode])) {
                fewest[mode] = depth;
            }
        }

        private void addState(long number) {
            // The golden ratio spreads numbers that differ in few places; its top bits are the place.
            int place = (int) ((number * 0x9E3779B97F4A7C15L) >>> (64 - TABLE_BITS));
            for (int k = 0; k < TABLE_SIZE; k++) {
                int slot = (place + k) & (TABLE_SIZE - 1);
                if (table[slot] == number) {
                    return;
                }
                if (table[slot] == 0L) {
                    table[slot] = number;
                    states++;
                    return;
                }
            }
        }
    }
}
