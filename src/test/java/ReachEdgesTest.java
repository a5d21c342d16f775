/** Boundary cases of promise 19 and of STATE in ==== 4; each title has the document's words. */
public final class ReachEdgesTest {
    private static final int[] WHATS = {0, 1, 10, 11, 12, 13, 14};

    public static void main(String[] args) {
        noTicks();
        upToFive();
        noneMay();
        twoMay();
        toldOrNot();
        fewest();
        mostDangers();
        whatIsStuck();
        partsOfTheState();
        partsAtTheirMost();
        notOfTheState();
        countsAtTheirMost();
        nothingIsChanged();
        Check.end();
    }

    /** reach(start, 0), (.., 1), (.., 10) .. (.., 14) */
    private static String reach(String start, String due) {
        StringBuilder text = new StringBuilder();
        String[] row = due.split(" ");
        for (int k = 0; k < row.length; k++) {
            text.append("reach(").append(start).append(", ").append(WHATS[k]).append(") = ").append(row[k]).append(';');
        }
        return text.toString();
    }

    private static void noTicks() {
        Check.run("0 to n: n 0, READY", reach("0, 0, 0", "1 0 NONE 0 NONE NONE NONE") + reach("511, 384, 0", "1 0 NONE 0 NONE NONE NONE"));
        Check.run("0 to n: n 0, STROKE", "tick(HANDS+CLEAR) = STROKE;" + reach("0, 3, 0", "1 0 NONE NONE 0 NONE NONE"));
        Check.run("0 to n: n 0, STOPPED", "tick(HANDS+CLEAR) = STROKE; tick(0) = STOPPED;" + reach("0, 3, 0", "1 0 NONE NONE NONE 0 NONE"));
        Check.run("0 to n: n 0, RETURN", "ticks(HANDS+CLEAR, 4) = RETURN;" + reach("0, 3, 0", "1 0 NONE NONE NONE NONE 0"));
        Check.run("0 to n: n 0, LOCKED", "ticks(LEFTA, 3) = LOCKED;" + reach("0, 3, 0", "1 0 0 NONE NONE NONE NONE"));
        Check.run("0 to n: the STATE as it is now counts", reach("CLEAR, 0, 5", "1 0 NONE 0 NONE NONE NONE") + reach("HANDS+CLEAR, 0, 1", "2 0 NONE 0 1 NONE NONE"));
    }

    private static void upToFive() {
        Check.run("n (0 .. 5)", "anew(2, 3, 12, 0, 9) = 1;" + reach("HANDS+CLEAR, 0, 1", "2 0 NONE 0 1 NONE NONE") + reach("HANDS+CLEAR, 0, 4", "5 0 NONE 0 1 NONE NONE") + reach("HANDS+CLEAR, 0, 5", "6 0 NONE 0 1 NONE NONE")
                + "reach(HANDS+CLEAR, 0, 6, 0) = OUTSIDE; reach(HANDS+CLEAR, 0, -1, 0) = OUTSIDE");
        // BOTTOM 5: the fifth TICK comes to it. BOTTOM 6: that would be the sixth.
        Check.run("the fifth TICK counts", "anew(2, 3, 12, 0, 5) = 1; reach(HANDS+CLEAR, 0, 5, 14) = 5; reach(HANDS+CLEAR, 0, 4, 14) = NONE");
        Check.run("the sixth TICK does not", "anew(2, 3, 12, 0, 6) = 1; reach(HANDS+CLEAR, 0, 5, 14) = NONE; tick(HANDS+CLEAR) = STROKE; reach(HANDS+CLEAR, 0, 5, 14) = 5");
    }

    /** "(a set of two at most)": none */
    private static void noneMay() {
        Check.run("none may: one way alone", reach("CLEAR+LEFTA, 0, 1", "2 0 NONE 0 NONE NONE NONE") + reach("CLEAR+LEFTA, 0, 2", "3 0 NONE 0 NONE NONE NONE") + reach("CLEAR+LEFTA, 0, 3", "4 0 3 0 NONE NONE NONE")
                + reach("CLEAR+LEFTA, 0, 5", "6 0 3 0 NONE NONE NONE"));
    }

    /** "(a set of two at most)": each two of nine, and no three */
    private static void twoMay() {
        for (int a = 0; a < 9; a++) {
            for (int b = a + 1; b < 9; b++) {
                int may = 1 << a | 1 << b;
                int states = statesOfOneTick(a, b);
                StringBuilder text = new StringBuilder("reach(CLEAR, " + may + ", 0, 0) = 1; reach(CLEAR, " + may + ", 1, 0) = " + states + ";");
                for (int c = 0; c < 9; c++) {
                    if (c != a && c != b) {
                        text.append("reach(CLEAR, ").append(may | 1 << c).append(", 1, 0) = OUTSIDE;");
                    }
                }
                Check.run("two may: " + a + ", " + b, text.toString());
            }
        }
        Check.run("more than two INPUTS", "reach(0, 511, 0, 0) = OUTSIDE; reach(0, 7, 0, 0) = OUTSIDE; reach(0, 448, 0, 11) = OUTSIDE; reach(0, 384, 0, 11) = 0");
        Check.run("a set that is none", "reach(0, 512, 0, 0) = OUTSIDE; reach(0, 513, 0, 0) = OUTSIDE; reach(0, MIN, 0, 0) = OUTSIDE; reach(512, 0, 0, 0) = OUTSIDE; reach(MIN, 0, 0, 0) = OUTSIDE; reach(0, 256, 0, 0) = 1; reach(511, 256, 0, 0) = 1");
    }

    /** From the first STATE, CLEAR being told: a and b each make a STATE of their own, and both together one more, but for pairs. */
    private static int statesOfOneTick(int a, int b) {
        boolean pair = a % 2 == 0 && b == a + 1;
        if (pair && a == 4) {
            return 2;   // the CURTAIN is APART, or it is not
        }
        return pair ? 3 : 4;   // a hand is APART either way, or ON; MUTE 2 is out of order with 1 or without
    }

    /** "but for any of those INPUTS that may": whether they are told or not */
    private static void toldOrNot() {
        // LEFT APART 0, 1, 2 with HANDS 0, and both ON with SINCE 1, 2.
        Check.run("those that may: told or not", reach("CLEAR, 3, 2", "5 0 NONE 0 NONE NONE NONE") + reach("CLEAR+LEFT, 3, 2", "5 0 NONE 0 NONE NONE NONE") + reach("CLEAR+LEFTA, 3, 2", "5 0 NONE 0 NONE NONE NONE"));
        Check.run("those that may: any of them, in each TICK anew", "anew(0, 3, 12, 0, 9) = 1; tick(CLEAR+LEFTA) = LOCKED; reach(CLEAR, RESET, 2, 11) = 2; reach(CLEAR, RESET, 1, 11) = NONE; reach(CLEAR+RESET, RESET, 2, 11) = 2; reach(CLEAR+RESET, 0, 5, 11) = NONE; reach(CLEAR, 0, 5, 11) = NONE");
        Check.run("those that may: two, each by itself", "stick(0, 1) = 2; stick(2, 1) = 2; reach(CLEAR, 10, 1, 12) = 1; reach(CLEAR, 2, 5, 12) = NONE; reach(CLEAR, 8, 5, 12) = NONE");
    }

    /** "the fewest such TICKS behind which the MODE is .. (NONE: it never is)" */
    private static void fewest() {
        Check.run("the fewest: now", "reach(0, 0, 5, 11) = 0; reach(HANDS+CLEAR, 0, 5, 11) = 0");
        Check.run("the fewest: it is there now, though each TICK leaves it", "tick(HANDS+CLEAR) = STROKE; reach(CLEAR, 0, 5, 12) = 0; reach(CLEAR, 0, 5, 13) = 1");
        Check.run("the fewest of the ways", "anew(5, 3, 12, 0, 9) = 1; tick(HANDS+CLEAR) = STROKE; reach(HANDS+CLEAR, MUTE1+MUTE2, 5, 10) = 1; reach(HANDS+CLEAR, MUTE1, 5, 10) = NONE; reach(HANDS+CLEAR, CLEARA, 5, 13) = 1; reach(HANDS+CLEAR, CLEARA, 5, 10) = NONE");
        for (int patience = 0; patience <= 5; patience++) {
            Check.run("the fewest: PATIENCE " + patience, "anew(" + patience + ", 3, 12, 0, 9) = 1; reach(CLEAR, LEFTA, 5, 10) = " + (patience == 5 ? "NONE" : patience + 1) + "; reach(CLEAR, LEFTA, " + patience + ", 10) = NONE");
        }
        Check.run("what: those there are", "reach(0, 0, 1, -1) = OUTSIDE; reach(0, 0, 1, 2) = OUTSIDE; reach(0, 0, 1, 3) = OUTSIDE; reach(0, 0, 1, 4) = OUTSIDE; reach(0, 0, 1, 9) = OUTSIDE; reach(0, 0, 1, 15) = OUTSIDE; reach(0, 0, 1, 10) = NONE; reach(0, 0, 1, 14) = NONE");
    }

    /** "the most DANGERS that up to n such TICKS have together" */
    private static void mostDangers() {
        String stuck = "anew(5, 3, 12, 0, 9) = 1; stick(4, 1) = 2; stick(5, 1) = 2;";
        for (int n = 0; n <= 5; n++) {
            Check.run("DANGERS: all of " + n, stuck + "reach(HANDS, 0, " + n + ", 1) = " + n + "; reach(HANDS, CLEAR, " + n + ", 1) = " + n + "; reach(HANDS+CLEAR, 0, " + n + ", 1) = 0");
        }
        Check.run("DANGERS: not those that were ahead", stuck + "ticks(HANDS, 3) = STROKE; many(1) = 3; reach(HANDS, 0, 0, 1) = 0; reach(HANDS, 0, 2, 1) = 2; many(1) = 3");
        Check.run("DANGERS: on one way, not on all ways together", "anew(5, 3, 12, 1, 9) = 1; tick(HANDS+CLEAR) = STROKE; reach(HANDS+CLEAR, CLEAR, 1, 1) = 1; reach(HANDS+CLEAR, CLEAR, 5, 1) = 1; reach(HANDS+CLEAR, 0, 5, 1) = 0");
        Check.run("DANGERS: more of them where the STATE is the same", stuck + "tick(HANDS+CLEAR) = STROKE; reach(HANDS+CLEAR, CLEARA, 3, 1) = 3; reach(HANDS+CLEAR, CLEARA, 3, 0) = 4");
        Check.run("DANGERS: none from BOTTOM on", "anew(5, 3, 12, 0, 2) = 1; stick(4, 1) = 2; stick(5, 1) = 2; reach(HANDS, 0, 5, 1) = 2; tick(HANDS+CLEAR) = STROKE; reach(HANDS, 0, 5, 1) = 1; tick(HANDS+CLEAR) = RETURN; reach(HANDS, 0, 5, 1) = 0");
    }

    /** "what is STUCK staying so" */
    private static void whatIsStuck() {
        Check.run("STUCK: an INPUT that may", "stick(0, 0) = 2; reach(CLEAR, LEFTA, 5, 0) = 1; stick(0, 1) = 0; reach(CLEAR, LEFTA, 2, 0) = 3; reach(CLEAR, LEFTA, 5, 10) = 3; stick(0, 2) = 1; reach(CLEAR, LEFTA, 2, 0) = 3");
        Check.run("STUCK: VALVES", "valve(0, 1) = 2; reach(CLEAR, 0, 1, 10) = NONE; reach(CLEAR, 0, 2, 10) = 2; valve(1, 1) = 2; reach(CLEAR, 0, 1, 0) = 2; valve(1, 0) = 1; valve(0, 0) = 1; reach(CLEAR, 0, 5, 0) = 1; reach(HANDS+CLEAR, 0, 3, 10) = 3");
    }

    /** "STATE of a press: all of MODE, HANDS, SINCE, MUTING, MUTED FOR, each APART, UNLIKE, COMMAND, POSITION, BRAKE, and whether RESET was SEEN": STATES that differ in one alone are two. */
    private static void partsOfTheState() {
        Check.run("STATE: APART of LEFT", reach("CLEAR+LEFTA, 0, 2", "3"));
        Check.run("STATE: APART of RIGHT", reach("CLEAR+RIGHTB, 0, 2", "3"));
        Check.run("STATE: APART of CURTAIN", reach("CLEARB, 0, 2", "3"));
        Check.run("STATE: HANDS and SINCE", reach("CLEAR+LEFT, 0, 1", "2") + reach("CLEAR+LEFT, 0, 3", "4") + reach("CLEAR+LEFT, 0, 5", "5"));
        Check.run("STATE: HANDS", reach("HANDS, 0, 5", "2"));
        Check.run("STATE: MUTING", reach("MUTE1, 0, 5", "2") + reach("MUTE2, 0, 5", "2") + reach("0, MUTE1+MUTE2, 1", "3"));
        Check.run("STATE: MUTED FOR", "tick(MUTE1) = READY;" + reach("MUTE1+MUTE2, 0, 1", "2") + reach("MUTE1+MUTE2, 0, 5", "6"));
        Check.run("STATE: UNLIKE", "valve(0, 1) = 2; ticks(0, 2) = LOCKED;" + reach("0, 0, 1", "2") + reach("0, 0, 5", "6"));
        Check.run("STATE: RESET", reach("RESET, 0, 5", "2"));
        // LOCKED with LEFT APART; LOCKED and READY, each with RESET seen and not.
        Check.run("STATE: MODE alone", "anew(0, 3, 12, 0, 9) = 1; tick(CLEAR+LEFTA) = LOCKED; tick(CLEAR+RESET) = LOCKED; tick(CLEAR+LEFTA) = LOCKED;" + reach("CLEAR, RESET, 2", "4") + reach("CLEAR, RESET, 3", "5"));
        // At the top with its COMMAND still open, then the same with it closed.
        Check.run("STATE: COMMAND alone", "anew(2, 3, 12, 0, 2) = 1; ticks(HANDS+CLEAR, 4) = READY;" + reach("HANDS+CLEAR, 0, 5", "2"));
        Check.run("STATE: POSITION alone", "anew(2, 3, 12, 0, 9) = 1; tick(HANDS+CLEAR) = STROKE;" + reach("HANDS+CLEAR, 0, 5", "6"));
        Check.run("STATE: POSITION and BRAKE", "anew(2, 3, 12, 3, 9) = 1; tick(HANDS+CLEAR) = STROKE; tick(CLEAR) = STOPPED;" + reach("CLEAR, 0, 5", "3"));
    }

    /** Two STATES of which one has a part at its most and the other has it at 0 and the part told ahead of it 1 more. */
    private static void partsAtTheirMost() {
        Check.run("STATE: BRAKE alone", "anew(5, 3, 12, 3, 9) = 1; tick(HANDS+CLEAR) = STROKE;" + reach("HANDS+CLEAR, CLEAR, 1", "4") + reach("HANDS+CLEAR, CLEAR, 2", "10"));
        Check.run("STATE: HANDS 3 and LOCKED, HANDS 0 and READY", "valve(0, 1) = 2; ticks(CLEAR, 2) = LOCKED; valve(0, 2) = 1; ticks(CLEAR+LEFT, 4) = LOCKED; tick(CLEAR+LEFT+RESET) = LOCKED; now(1) = 3;" + reach("CLEAR, LEFT, 1", "4 0 0 1 NONE NONE NONE"));
        Check.run("STATE: SINCE 9 and HANDS 1, SINCE 0 and HANDS 2", "anew(2, 9, 12, 0, 2) = 1; ticks(LEFT, 8) = READY;" + reach("LEFT, RIGHT, 1", "4"));
        Check.run("STATE: MUTING 4 and SINCE 1, MUTING 0 and SINCE 2", reach("LEFT, MUTE2, 2", "5"));
        Check.run("STATE: MUTED FOR 30 and MUTING 3, MUTED FOR 0 and MUTING 4", "anew(2, 3, 30, 0, 2) = 1; tick(MUTE1) = READY; ticks(MUTE1+MUTE2, 29) = READY;" + reach("0, MUTE2, 1", "3"));
        Check.run("STATE: LEFT APART 9 and MUTED FOR 1, APART 0 and MUTED FOR 2", "ticks(LEFTA, 7) = LOCKED; tick(LEFTA+MUTE1) = LOCKED;" + reach("MUTE1+MUTE2, LEFTA, 2", "6"));
        Check.run("STATE: RIGHT APART 9 and LEFT 0, 0 and LEFT 1", "ticks(RIGHTA, 8) = LOCKED;" + reach("0, 5, 1", "5"));
        Check.run("STATE: CURTAIN APART 9 and RIGHT 0, 0 and RIGHT 1", "ticks(CLEARA, 8) = LOCKED;" + reach("0, 20, 1", "5"));
        Check.run("STATE: UNLIKE 9 and CURTAIN APART 0, 0 and 1", "valve(0, 1) = 2; ticks(0, 9) = LOCKED; valve(0, 2) = 1;" + reach("CLEARA, 0, 1", "2"));
        Check.run("STATE: COMMAND open and UNLIKE 0, closed and UNLIKE 1", "anew(2, 3, 12, 0, 2) = 1; ticks(HANDS+CLEAR, 4) = READY; valve(0, 0) = 2;" + reach("HANDS+CLEAR, 0, 1", "2"));
    }

    private static void notOfTheState() {
        // ROUNDS and DANGERS go on while the STATE comes back: both VALVES open go round in 4 TICKS; UNLIKE is at its most by then.
        Check.run("no STATE: ROUNDS, DANGERS", "anew(2, 3, 12, 3, 2) = 1; valve(0, 1) = 2; valve(1, 1) = 2; ticks(0, 12) = LOCKED; now(8) = 9;" + reach("0, 0, 3", "4 2") + reach("0, 0, 4", "4 2") + reach("0, 0, 5", "4 3"));
        Check.run("no STATE: what was told", reach("CLEAR, CLEAR, 5", "8") + "stick(4, 1) = 2; stick(5, 1) = 2;" + reach("CLEAR, CLEAR, 5", "1"));
    }

    private static void countsAtTheirMost() {
        for (int twin = 0; twin < 3; twin++) {
            int set = 1 << 2 * twin;
            Check.run("9 at most: no new STATE, twin " + twin, "ticks(" + set + ", 7) = LOCKED; reach(" + set + ", 0, 1, 0) = 2; reach(" + set + ", 0, 2, 0) = 3; reach(" + set + ", 0, 3, 0) = 3; tick(" + set + ") = LOCKED; reach(" + set + ", 0, 5, 0) = 2; tick(" + set + ") = LOCKED; reach(" + set + ", 0, 5, 0) = 1");
        }
        Check.run("9 at most: no new STATE, UNLIKE", "valve(0, 1) = 2; ticks(0, 8) = LOCKED; reach(0, 0, 5, 0) = 2; tick(0) = LOCKED; reach(0, 0, 5, 0) = 1");
        Check.run("LIMIT 30: the most MUTED FOR is a STATE of its own", "anew(2, 3, 30, 0, 2) = 1; tick(MUTE1) = READY; ticks(MUTE1+MUTE2, 29) = READY; reach(MUTE1+MUTE2, 0, 1, 0) = 2; reach(MUTE1+MUTE2, 0, 2, 0) = 3; reach(MUTE1+MUTE2, 0, 5, 0) = 3");
        Check.run("SPAN 9: the most SINCE is a STATE of its own", "anew(2, 9, 12, 0, 2) = 1; ticks(LEFT, 8) = READY; reach(LEFT, 0, 1, 0) = 2; reach(LEFT, 0, 5, 0) = 3");
        Check.run("BOTTOM 9: the last POSITION is a STATE of its own", "anew(2, 3, 12, 0, 9) = 1; ticks(HANDS+CLEAR, 16) = RETURN; reach(HANDS+CLEAR, 0, 1, 0) = 2; reach(HANDS+CLEAR, 0, 2, 0) = 3; reach(HANDS+CLEAR, 0, 2, 11) = 2; reach(HANDS+CLEAR, 0, 5, 0) = 4");
    }

    private static void nothingIsChanged() {
        String rows = "now = STROKE 2 0 0 0 0 0 0 0 1 1 3 0 NONE; many = 1 0 0 0 0 0 0; followed = 0 4 0 0 0; places() = 0;";
        Check.run("Nothing is changed", "anew(0, 3, 12, 3, 9) = 1; tick(HANDS+CLEAR) = STROKE;" + rows + "reach(HANDS+CLEAR, CLEAR, 5, 1) = 3; reach(HANDS+CLEAR, 192, 5, 10) = 1;" + rows + "reach(HANDS+CLEAR, CLEAR, 6, 1) = OUTSIDE;" + rows + "tick(HANDS+CLEAR) = STROKE; now(10) = 2");
    }
}
