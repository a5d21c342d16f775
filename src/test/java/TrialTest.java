/** Promises 17 (trial) and 18 (trials). */
public final class TrialTest {
    private static final String STROKE_SCRIPT = "step(CLEAR) = 1; step(HANDS+CLEAR) = 2; step(HANDS+CLEAR) = 3; step(HANDS+CLEAR) = 4; step(HANDS+CLEAR) = 5;";

    public static void main(String[] args) {
        single();
        lockInTheScript();
        asAtFirst();
        trialRefusals();
        noSteps();
        oneStep();
        sums();
        oneAfterAnother();
        trialsRefusals();
        Check.end();
    }

    private static void all(StringBuilder text, String start, String... due) {
        for (int what = 0; what < due.length; what++) {
            text.append("trial(").append(start).append(", ").append(what).append(") = ").append(due[what]).append(';');
        }
    }

    private static void single() {
        StringBuilder text = new StringBuilder("anew(1, 3, 12, 1, 2) = 1;" + STROKE_SCRIPT);
        all(text, "0, 0, 5", "0", "NONE", "NONE", "READY", "1");
        all(text, "8, 1, 2", "0", "NONE", "NONE", "READY", "1");
        all(text, "0, 1, 0", "0", "NONE", "NONE", "READY", "1");
        // LEFT a at 0 from the STROKE's first TICK on: RIGHT alone, and LEFT apart for too long in its second
        all(text, "0, 0, 1", "0", "3", "1", "LOCKED", "0");
        // from its second TICK on: STOPPED, LOCKED with the third
        all(text, "1, 0, 2", "0", "4", "1", "LOCKED", "0");
        all(text, "3, 0, 4", "0", "NONE", "NONE", "READY", "1");
        all(text, "4, 0, 0", "0", "2", "3", "LOCKED", "0");
        all(text, "7, 1, 2", "0", "3", "5", "LOCKED", "0");
        text.append("now = READY 0 0 0 0 0 0 0 0 0 0 0 0 NONE; many = 0 0 0 5 0 0 0; followed = 0 0 0 0 0");
        Check.run("single", text.toString());
        Check.run("a danger that the stuck curtain hides", "step(HANDS+CLEAR) = 1; step(HANDS+CLEARA) = 2; step(HANDS+CLEARA) = 3;"
                + "trial(5, 1, 3, 0) = 1; trial(5, 1, 3, 3) = STOPPED; trial(5, 1, 0, 0) = 2; trial(5, 1, 0, 3) = STROKE; trial(5, 1, 2, 0) = 1; trial(5, 1, 2, 3) = STOPPED");
    }

    private static void lockInTheScript() {
        // it is LOCKED by the second STEP already, opened, and LOCKED again by the fifth if RIGHT a is STUCK
        String script = "anew(0, 3, 12, 1, 4) = 1; step(CLEAR) = 1; step(CLEAR+LEFTA) = 2; step(CLEAR+RESET) = 3; step(CLEAR) = 4; step(CLEAR+RIGHT) = 5; step(CLEAR) = 6;";
        StringBuilder text = new StringBuilder(script);
        all(text, "2, 0, 6", "0", "2", "1", "READY", "0");
        all(text, "2, 0, 4", "0", "2", "1", "LOCKED", "0");
        all(text, "2, 1, 0", "0", "1", "2", "LOCKED", "0");
        Check.run("a lock in the script", text.toString());
    }

    private static void asAtFirst() {
        Check.run("what is stuck stays out of it", "valve(0, 0) = 2; stick(0, 0) = 2; step(HANDS+CLEAR) = 1; step(HANDS+CLEAR) = 2; step(HANDS+CLEAR) = 3; step(HANDS+CLEAR) = 4;"
                + "ticks(0, 3) = READY; trial(8, 0, 0, 3) = RETURN; trial(8, 0, 4, 3) = RETURN; trials(1) = 0; many(0) = 3; valve(0, 2) = 0; stick(0, 2) = 0");
        Check.run("settings as they are", "step(CLEAR+LEFTA) = 1; trial(8, 0, 1, 3) = READY; trials(2) = 0; anew(0, 3, 12, 1, 4) = 1; trial(8, 0, 1, 3) = LOCKED; trial(8, 0, 1, 1) = 1; trial(8, 0, 1, 2) = 1; trials(2) = 16; anew(1, 3, 12, 1, 4) = 1; trials(2) = 0");
    }

    private static void trialRefusals() {
        Check.run("trial refusals", """
                step(CLEAR) = 1; step(CLEAR) = 2
                trial(-1, 0, 0, 0) = UNKNOWN; trial(9, 0, 0, 0) = UNKNOWN; trial(MIN, 0, 0, 0) = UNKNOWN; trial(MAX, 0, 0, 0) = UNKNOWN
                trial(9, 2, 3, 5) = UNKNOWN                                   # UNKNOWN comes first
                trial(0, -1, 0, 0) = OUTSIDE; trial(0, 2, 0, 0) = OUTSIDE; trial(0, MAX, 0, 0) = OUTSIDE
                trial(0, 0, -1, 0) = OUTSIDE; trial(0, 0, 3, 0) = OUTSIDE; trial(0, 0, MIN, 0) = OUTSIDE; trial(0, 0, MAX, 0) = OUTSIDE
                trial(0, 0, 0, -1) = OUTSIDE; trial(0, 0, 0, 5) = OUTSIDE; trial(0, 0, 0, MAX) = OUTSIDE
                trial(0, 0, 2, 3) = READY
                """);
    }

    private static void noSteps() {
        Check.run("no steps", "trial(3, 1, 0, 0) = 0; trial(3, 1, 0, 1) = NONE; trial(3, 1, 0, 2) = NONE; trial(3, 1, 0, 3) = READY; trial(3, 1, 0, 4) = 0; trial(3, 1, 1, 0) = OUTSIDE;"
                + "trials(0) = 0; trials(1) = 0; trials(2) = 0; trials(3) = NONE; trials(4) = 0; trials(5) = 0");
    }

    private static void oneStep() {
        // with PATIENCE 0 and CLEAR told, each of the INPUTS 0 .. 3 at 1 and 4, 5 at 0 locks at once
        Check.run("one step", "anew(0, 3, 12, 1, 4) = 1; step(CLEAR) = 1; trials(0) = 18; trials(1) = 0; trials(2) = 6; trials(3) = 1; trials(4) = 0; trials(5) = 0");
        Check.run("one step that locks", "anew(0, 3, 12, 1, 4) = 1; step(CLEAR+LEFTA) = 1; trials(2) = 16; trials(3) = 1");
    }

    private static void sums() {
        // Only LEFT a at 0 from the first STEP on keeps it open; LEFT b at 1 locks it with the second TICK.
        // Where it is LOCKED ahead of the INPUT's STEP, it counts as LOCKED, but not for what that took.
        Check.run("locked ahead of it", "anew(0, 3, 12, 1, 4) = 1; step(LEFTA+CLEAR) = 1; step(CLEAR) = 2; step(CLEAR) = 3;"
                + "trials(0) = 54; trials(2) = 53; trials(3) = 2");
        // Hands and curtain (6 INPUTS) at 0 from one of the first two STEPS on, and MUTE 2 at 1 (LOCKED in its STROKE).
        Check.run("fewer rounds", "anew(5, 3, 12, 1, 2) = 1; step(HANDS+CLEAR) = 1; step(HANDS+CLEAR) = 2; step(HANDS+CLEAR) = 3; step(HANDS+CLEAR) = 4;"
                + "trials(0) = 72; trials(2) = 2; trials(3) = 2; trials(5) = 14; trials(1) = 0");
        // All but those six in which an INPUT at 0 from the first STEP on keeps it from the STROKE.
        Check.run("dangers", "step(HANDS+CLEAR) = 1; step(HANDS+CLEARA) = 2; step(HANDS+CLEARA) = 3; trials(4) = 2; trials(1) = 48");
        Check.run("they follow the script", "step(CLEAR) = 1; trials(0) = 18; step(CLEAR) = 2; trials(0) = 36; wipe() = 2; trials(0) = 0; step(CLEAR) = 1; trials(0) = 18; trials(0) = 18");
        Check.run("they change nothing", "tick(HANDS+CLEAR) = STROKE; step(CLEAR+LEFTA) = 1; stick(0, 1) = 2; trials(2) = 0; now = STROKE 2 0 0 0 0 0 0 0 1 1 1 0 NONE; many = 1 0 0 1 1 0 0; followed = 0 4 0 0 0");
    }

    /** Each begins as at first, whatever the one ahead of it left behind. */
    private static void oneAfterAnother() {
        String none = "trials(1) = 0; trials(2) = 0; trials(3) = NONE; trials(4) = 0; trials(5) = 0;";
        Check.run("sums begin anew", "anew(0, 3, 12, 1, 2) = 1; step(HANDS+CLEAR) = 1; step(HANDS) = 2; step(HANDS+CLEAR) = 3; step(CLEARA) = 4; trials(4) = 1;"
                + "wipe() = 4; anew(5, 3, 12, 1, 2) = 1; step(CLEAR) = 1;" + none);
        Check.run("hands begin anew", "step(LEFT+CLEAR) = 1; step(LEFT+CLEAR) = 2; trial(8, 0, 2, 3) = READY; wipe() = 2;"
                + "step(LEFT+CLEAR) = 1; step(LEFT+CLEAR) = 2; step(LEFT+CLEAR) = 3; step(HANDS+CLEAR) = 4; trial(8, 0, 4, 3) = STROKE; trial(8, 0, 4, 3) = STROKE");
        Check.run("muting begins anew", "anew(2, 3, 2, 1, 9) = 1; step(HANDS+CLEAR) = 1; step(HANDS+CLEAR+MUTE1) = 2; step(HANDS+CLEAR+MUTE1+MUTE2) = 3; step(HANDS+MUTE1+MUTE2) = 4;"
                + "trial(8, 0, 4, 3) = STROKE; trial(8, 0, 4, 3) = STROKE; trial(8, 0, 4, 0) = 0");
        Check.run("the slide begins anew", "anew(2, 3, 12, 3, 9) = 1; step(HANDS+CLEAR) = 1; step(HANDS) = 2; trial(8, 0, 2, 0) = 1; trial(8, 0, 2, 0) = 1; wipe() = 2;"
                + "step(0) = 1; trial(8, 0, 1, 0) = 0; trial(8, 0, 1, 0) = 0");
    }

    private static void trialsRefusals() {
        Check.run("trials refusals", "trials(-1) = OUTSIDE; trials(6) = OUTSIDE; trials(MIN) = OUTSIDE; trials(MAX) = OUTSIDE");
    }
}
