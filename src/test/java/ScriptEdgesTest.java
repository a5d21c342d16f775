/** Boundary cases of ==== 4 and of the promises 14 to 18; each title has the document's words. */
public final class ScriptEdgesTest {
    public static void main(String[] args) {
        upToSteps();
        setsOfSteps();
        noSteps();
        wiped();
        trialWithNoSteps();
        noneStuck();
        from();
        lockedFirst();
        lockedAgain();
        modeAtTheEnd();
        roundsAndDangers();
        aPressAsAtFirst();
        trialsAreCounted();
        trialsOfAnotherScript();
        trialsWithDanger();
        trialsLocked();
        mostTicks();
        fewerRounds();
        Check.end();
    }

    private static String steps(String set, int n, int ahead) {
        StringBuilder text = new StringBuilder();
        for (int k = 1; k <= n; k++) {
            text.append("step(").append(set).append(") = ").append(ahead + k).append(';');
        }
        return text.toString();
    }

    private static String script(String... sets) {
        StringBuilder text = new StringBuilder();
        for (int k = 0; k < sets.length; k++) {
            text.append(steps(sets[k], 1, k));
        }
        return text.toString();
    }

    /** trial(start, 0) .. trial(start, 4) */
    private static String trial(String start, String due) {
        StringBuilder text = new StringBuilder();
        String[] row = due.split(" ");
        for (int what = 0; what < row.length; what++) {
            text.append("trial(").append(start).append(", ").append(what).append(") = ").append(row[what]).append(';');
        }
        return text.toString();
    }

    private static String trials(String due) {
        StringBuilder text = new StringBuilder();
        String[] row = due.split(" ");
        for (int what = 0; what < row.length; what++) {
            text.append("trials(").append(what).append(") = ").append(row[what]).append(';');
        }
        return text.toString();
    }

    private static void upToSteps() {
        Check.run("up to 32 STEPS: one is left", steps("5", 31, 0) + "many(3) = 31; stepAt(30) = 5; stepAt(31) = UNKNOWN; step(6) = 32; stepAt(31) = 6");
        Check.run("up to 32 STEPS: FULL", steps("5", 32, 0) + "step(6) = FULL; step(6) = FULL; many(3) = 32; stepAt(31) = 5; stepAt(32) = UNKNOWN");
        Check.run("FULL: OUTSIDE is told ahead of it", steps("5", 32, 0) + "step(512) = OUTSIDE; step(-1) = OUTSIDE; step(MIN) = OUTSIDE; step(MAX) = OUTSIDE; step(511) = FULL; step(0) = FULL");
        Check.run("FULL, till it is wiped", steps("5", 32, 0) + "step(6) = FULL; wipe() = 32; step(6) = 1; stepAt(0) = 6; stepAt(1) = UNKNOWN;" + steps("7", 31, 1) + "step(8) = FULL; stepAt(0) = 6; stepAt(31) = 7");
    }

    private static void setsOfSteps() {
        Check.run("OUTSIDE: the set", "step(0) = 1; step(511) = 2; step(-1) = OUTSIDE; step(512) = OUTSIDE; step(1023) = OUTSIDE; step(MIN) = OUTSIDE; step(MAX) = OUTSIDE; many(3) = 2; stepAt(0) = 0; stepAt(1) = 511; stepAt(2) = UNKNOWN; step(7) = 3; stepAt(2) = 7");
        StringBuilder text = new StringBuilder();
        for (int k = 0; k < 32; k++) {
            text.append("step(").append(511 - 15 * k).append(") = ").append(k + 1).append(';');
        }
        for (int k = 31; k >= 0; k--) {
            text.append("stepAt(").append(k).append(") = ").append(511 - 15 * k).append(';');
        }
        Check.run("The set of a STEP: each of 32", text.toString());
    }

    private static void noSteps() {
        Check.run("stepAt UNKNOWN: no STEPS", "stepAt(0) = UNKNOWN; stepAt(-1) = UNKNOWN; stepAt(31) = UNKNOWN; stepAt(MIN) = UNKNOWN; stepAt(MAX) = UNKNOWN");
        Check.run("stepAt UNKNOWN: beside those there are", "step(9) = 1; step(8) = 2; stepAt(-1) = UNKNOWN; stepAt(2) = UNKNOWN; stepAt(1) = 8; stepAt(0) = 9; stepAt(NONE) = UNKNOWN");
    }

    private static void wiped() {
        Check.run("wipe: how many it had: none", "wipe() = 0; wipe() = 0; many(3) = 0");
        Check.run("wipe: how many it had: one", "step(0) = 1; wipe() = 1; wipe() = 0; stepAt(0) = UNKNOWN; trials(0) = 0");
        Check.run("wipe: the SCRIPT alone", "tick(HANDS+CLEAR) = STROKE; stick(0, 1) = 2; step(0) = 1; wipe() = 1; now(0) = STROKE; many = 1 0 0 0 1 0 0; followed = 0 4 0 0 0");
        Check.run("wipe: a TRIAL of what comes behind it", "anew(0, 3, 12, 1, 4) = 1;" + script("LEFTA", "LEFTA") + trials("36 0 34 1 0 0") + "wipe() = 2;" + trials("0 0 0 NONE 0 0") + script("CLEAR") + trials("18 0 6 1 0 0"));
    }

    private static void trialWithNoSteps() {
        for (int input : new int[] {0, 8}) {
            Check.run("from (0 .. as many as there are): no STEPS", trial(input + ", 0, 0", "0 NONE NONE READY 0") + trial(input + ", 1, 0", "0 NONE NONE READY 0")
                    + "trial(" + input + ", 0, 1, 0) = OUTSIDE; trial(" + input + ", 0, -1, 0) = OUTSIDE; trial(" + input + ", 2, 0, 0) = OUTSIDE");
        }
        Check.run("no STEPS, whatever the press is like", Ways.LOCKED + trial("0, 0, 0", "0 NONE NONE READY 0") + trials("0 0 0 NONE 0 0"));
    }

    /** "(from as many as there are STEPS: none is STUCK)" */
    private static void noneStuck() {
        String stroke = "anew(0, 3, 12, 0, 2) = 1;" + script("HANDS+CLEAR", "HANDS+CLEAR", "HANDS+CLEAR", "HANDS+CLEAR");
        for (int input = 0; input < 9; input++) {
            Check.run("none is STUCK: INPUT " + input, stroke + trial(input + ", 0, 4", "0 NONE NONE READY 1") + trial(input + ", 1, 4", "0 NONE NONE READY 1"));
        }
        Check.run("from the last STEP on: STUCK", stroke + trial("4, 0, 3", "0 4 3 LOCKED 0") + trial("4, 0, 4", "0 NONE NONE READY 1") + "trial(4, 0, 5, 0) = OUTSIDE; trial(4, 0, -1, 0) = OUTSIDE; trial(9, 0, 5, 0) = UNKNOWN; trial(-1, 0, 4, 0) = UNKNOWN");
        // Even none being STUCK, the line asks for an INPUT and for v.
        Check.run("none is STUCK, but v is OUTSIDE", stroke + "trial(0, 2, 4, 3) = OUTSIDE; trial(0, -1, 4, 3) = OUTSIDE; trial(0, 1, 4, 5) = OUTSIDE; trial(0, 1, 4, -1) = OUTSIDE");
        Check.run("none is STUCK: a full SCRIPT", steps("CLEAR", 32, 0) + trial("4, 0, 32", "0 NONE NONE READY 0") + "trial(4, 0, 33, 0) = OUTSIDE;" + trial("4, 0, 31", "0 NONE NONE READY 0") + trial("4, 0, 30", "0 NONE NONE READY 0")
                + trial("4, 0, 29", "0 32 3 LOCKED 0") + trial("4, 0, 0", "0 3 3 LOCKED 0"));
    }

    /** "STUCK at v (0, 1) from STEP from on" */
    private static void from() {
        String start = "anew(0, 3, 12, 0, 9) = 1;" + steps("CLEAR", 5, 0);
        for (int from = 0; from < 5; from++) {
            Check.run("from STEP from on: " + from, start + trial("0, 1, " + from, "0 " + (from + 1) + " 1 LOCKED 0") + trial("0, 0, " + from, "0 NONE NONE READY 0"));
        }
        Check.run("ahead of STEP from it is as told", "anew(2, 3, 12, 0, 9) = 1;" + script("HANDS+CLEAR", "HANDS+CLEAR", "HANDS+CLEAR") + trial("0, 0, 1", "0 NONE NONE STOPPED 0") + trial("0, 0, 0", "0 3 1 LOCKED 0") + trial("0, 0, 2", "0 NONE NONE STOPPED 0"));
    }

    /** "1 behind how many TICKS it was LOCKED first (NONE: never), 2 by which CAUSE (NONE)" */
    private static void lockedFirst() {
        Check.run("LOCKED first: behind the first TICK", "anew(0, 3, 12, 1, 4) = 1;" + script("CLEAR+LEFTA") + trial("8, 0, 1", "0 1 1 LOCKED 0"));
        Check.run("LOCKED first: behind the last of 32", "anew(0, 3, 12, 1, 4) = 1;" + steps("CLEAR", 31, 0) + "step(CLEAR+RIGHTA) = 32;" + trial("8, 0, 32", "0 32 2 LOCKED 0"));
        Check.run("LOCKED first: never", steps("CLEAR", 32, 0) + trial("8, 1, 0", "0 NONE NONE READY 0"));
        Check.run("by which CAUSE: 3", "anew(0, 3, 12, 1, 4) = 1;" + script("CLEARA") + trial("8, 0, 1", "0 1 3 LOCKED 0"));
        Check.run("by which CAUSE: 5", script("HANDS+CLEAR", "HANDS+CLEAR+MUTE2") + trial("8, 0, 2", "0 2 5 LOCKED 0"));
    }

    private static void lockedAgain() {
        Check.run("LOCKED first, not again", "anew(0, 3, 12, 1, 4) = 1;" + script("CLEAR", "CLEARA", "CLEAR+RESET", "CLEAR", "CLEAR+LEFTA") + trial("6, 0, 5", "0 2 3 LOCKED 0"));
        Check.run("LOCKED first, though it is open at its end", "anew(0, 3, 12, 1, 4) = 1;" + script("CLEAR", "CLEARA", "CLEAR+RESET", "CLEAR") + trial("6, 0, 4", "0 2 3 READY 0"));
    }

    private static void modeAtTheEnd() {
        Check.run("the MODE at its end: each", "anew(2, 3, 12, 0, 2) = 1;" + script("HANDS+CLEAR", "HANDS+CLEAR", "CLEAR", "CLEAR") + trial("8, 0, 4", "0 NONE NONE READY 1") + "wipe() = 4;"
                + script("HANDS+CLEAR") + trial("8, 0, 1", "0 NONE NONE STROKE 0") + trial("8, 0, 0", "0 NONE NONE STROKE 0") + trial("0, 0, 0", "0 NONE NONE READY 0")
                + "step(CLEAR) = 2;" + trial("8, 0, 2", "0 NONE NONE STOPPED 0") + "step(HANDS+CLEAR) = 3;" + trial("8, 0, 3", "0 NONE NONE RETURN 0"));
    }

    private static void roundsAndDangers() {
        Check.run("ROUNDS: as many as 32 STEPS have", "anew(2, 3, 12, 0, 2) = 1;" + rounds(6) + trial("8, 0, 30", "0 NONE NONE READY 6") + trial("0, 1, 0", "0 NONE NONE READY 6") + trial("0, 0, 5", "0 8 1 LOCKED 1") + trial("0, 0, 0", "0 3 1 LOCKED 0"));
        Check.run("DANGERS: one in each STEP above BOTTOM", "anew(5, 3, 12, 3, 9) = 1;" + steps("HANDS+CLEARB", 10, 0) + trial("4, 1, 0", "9 NONE NONE RETURN 0") + trial("4, 1, 10", "0 6 3 LOCKED 0") + trial("4, 1, 1", "0 NONE NONE READY 0"));
    }

    private static String rounds(int n) {
        StringBuilder text = new StringBuilder();
        for (int k = 0; k < n; k++) {
            text.append(steps("HANDS+CLEAR", 4, 5 * k)).append(steps("CLEAR", 1, 5 * k + 4));
        }
        return text.toString();
    }

    /** "a press as at first, with SETTINGS as they are, nothing STUCK but one INPUT" */
    private static void aPressAsAtFirst() {
        String stuck = "stick(0, 0) = 2; stick(4, 0) = 2; valve(0, 1) = 2; valve(1, 0) = 2; ticks(511, 60) = LOCKED;";
        // LOCKED: hands at 0 from the STEPS 0, 1 on (8), the curtain from 0, 1, 2 on (6), MUTE 2 at 1 from 0, 1 on (2).
        Check.run("nothing else STUCK", "anew(2, 3, 12, 0, 2) = 1;" + stuck + rounds(1) + trial("8, 0, 0", "0 NONE NONE READY 1") + trial("8, 1, 5", "0 NONE NONE READY 1") + trials("90 0 16 3 0 14") + "now(0) = LOCKED; many(4) = 2; many(5) = 2; many(0) = 60");
        Check.run("the INPUT that is STUCK in the press is not so in the TRIAL", "anew(2, 3, 12, 0, 2) = 1; stick(0, 0) = 2;" + rounds(1) + trial("0, 1, 5", "0 NONE NONE READY 1") + trial("0, 0, 5", "0 NONE NONE READY 1") + trial("0, 0, 0", "0 3 1 LOCKED 0"));
        Check.run("SETTINGS as they are now", script("CLEARA", "CLEARA", "CLEARA") + trial("8, 0, 3", "0 3 3 LOCKED 0") + "anew(3, 3, 12, 1, 4) = 1;" + trial("8, 0, 3", "0 NONE NONE READY 0") + "anew(6, 3, 12, 1, 4) = OUTSIDE;"
                + trial("8, 0, 3", "0 NONE NONE READY 0") + trials("54 0 0 NONE 0 0") + "anew(0, 3, 12, 1, 4) = 1;" + trial("8, 0, 3", "0 1 3 LOCKED 0"));
    }

    /** Each of the sums was above 0, and is so no more once the SCRIPT is another one. */
    private static void trialsOfAnotherScript() {
        String start = "anew(5, 3, 12, 1, 2) = 1;" + rounds(1) + "step(HANDS+CLEAR) = 6; step(HANDS) = 7;";
        // No DANGER: six INPUTS at 0 from one of the STEPS 0 .. 5 on (36), MUTE 2 at 1 from 0, 1 on (2).
        // LOCKED: MUTE 2 at 1 from any STEP on (7), a CURTAIN at 0 from the first on, with the sixth TICK (2).
        // A ROUND less: six INPUTS at 0 from 0, 1 on (12), MUTE 2 at 1 from 0, 1 on (2).
        Check.run("sums of another SCRIPT: none", start + trials("126 88 9 6 1 14") + "wipe() = 7;" + trials("0 0 0 NONE 0 0"));
        Check.run("sums of another SCRIPT: one STEP", start + trials("126 88 9 6 1 14") + "wipe() = 7; step(CLEAR) = 1;" + trials("18 0 0 NONE 0 0"));
        Check.run("sums of other SETTINGS", start + trials("126 88 9 6 1 14") + "anew(5, 3, 12, 0, 9) = 1;" + trials("126 0 9 6 0 0"));
    }

    private static void trialsAreCounted() {
        StringBuilder text = new StringBuilder("trials(0) = 0;");
        for (int n = 1; n <= 32; n++) {
            text.append("step(CLEAR) = ").append(n).append("; trials(0) = ").append(18 * n).append(';');
        }
        Check.run("0 how many there are: 0 .. 32 STEPS", text + "step(CLEAR) = FULL; trials(0) = 576; trials(6) = OUTSIDE; trials(-1) = OUTSIDE; wipe() = 32; trials(0) = 0");
    }

    /** "1 in how many there is a DANGER", "4 the most DANGERS in one" */
    private static void trialsWithDanger() {
        Check.run("a DANGER: none", "anew(5, 3, 12, 0, 9) = 1;" + rounds(1) + "trials(1) = 0; trials(4) = 0");
        // Only CURTAIN a STUCK at 1 from the first STEP on lets it go with b alone told; it is a DANGER in every STEP.
        // It is LOCKED in all but those in which a comes to be 1, or b 0, with one of the first six STEPS.
        Check.run("a DANGER: in one TRIAL, in each of its TICKS", "anew(5, 3, 12, 0, 9) = 1;" + steps("HANDS+CLEARB", 8, 0) + "trials(1) = 1; trials(4) = 8; trials(2) = 132");
        // OVERRUN 1: with none STUCK there is one DANGER; six INPUTS at 0 from the first STEP on keep it from the STROKE.
        Check.run("a DANGER: in all but six", "anew(5, 3, 12, 1, 9) = 1;" + script("HANDS+CLEAR", "HANDS") + "trials(0) = 36; trials(1) = 30; trials(4) = 1");
    }

    /** "2 in how many it was LOCKED", if it is open again, too */
    private static void trialsLocked() {
        Check.run("LOCKED: in none", "anew(5, 3, 12, 0, 9) = 1;" + script("CLEAR", "CLEAR") + trials("36 0 0 NONE 0 0"));
        Check.run("LOCKED: in all", "anew(0, 3, 12, 0, 9) = 1;" + script("LEFTA+RIGHTA") + trials("18 0 18 1 0 0"));
        // Only LEFT a STUCK at 0 from the first STEP on keeps it open; LEFT b at 1 puts the lock off to the second TICK.
        Check.run("LOCKED: and open again", "anew(0, 3, 12, 0, 9) = 1;" + script("CLEAR+LEFTA", "CLEAR+RESET", "CLEAR") + "trial(6, 0, 3, 3) = READY; trials(2) = 53; trials(3) = 2");
    }

    /** "3 the most TICKS from that with which the INPUT is STUCK up to the one that LOCKED it first, both counted" */
    private static void mostTicks() {
        Check.run("both counted: one TICK", "anew(0, 3, 12, 0, 9) = 1;" + script("CLEAR") + "trials(3) = 1");
        for (int patience = 0; patience <= 5; patience++) {
            Check.run("both counted: PATIENCE " + patience, "anew(" + patience + ", 3, 12, 0, 9) = 1;" + steps("CLEAR", 8, 0) + "trials(3) = " + (patience + 1));
        }
        Check.run("both counted: 32 TICKS", "anew(0, 3, 12, 0, 9) = 1;" + steps("CLEAR", 31, 0) + "step(CLEAR+LEFTA) = 32; trials(3) = 32");
        Check.run("both counted: 31 TICKS", "anew(0, 3, 12, 0, 9) = 1;" + steps("CLEAR", 30, 0) + "step(CLEAR+LEFTA) = 31; step(CLEAR) = 32; trials(3) = 31");
        Check.run("NONE: in none", "anew(5, 3, 12, 0, 9) = 1;" + steps("CLEAR", 5, 0) + "trials(2) = 0; trials(3) = NONE");
        // In the sixth TICK the six INPUTS 0 .. 5, STUCK from the first STEP on, are APART for too long.
        Check.run("NONE no more", "anew(5, 3, 12, 0, 9) = 1;" + steps("CLEAR", 6, 0) + "trials(2) = 6; trials(3) = 6");
        // With all but LEFT a at 0 and LEFT b at 1 it is LOCKED by the first TICK; STUCK from the second STEP on, it was so ahead of that.
        Check.run("LOCKED with that one or later: not ahead of it", "anew(0, 3, 12, 0, 9) = 1;" + script("CLEAR+LEFTA", "CLEAR+LEFTA", "CLEAR+LEFTA") + "trials(2) = 52; trials(3) = 1");
    }

    /** "5 in how many fewer ROUNDS are done than with none STUCK" */
    private static void fewerRounds() {
        Check.run("fewer ROUNDS: with none STUCK there are none", "anew(5, 3, 12, 0, 9) = 1;" + script("HANDS+CLEAR") + "trials(5) = 0");
        // Six INPUTS at 0 from one of the first two STEPS on (the third is RETURN), and MUTE 2 at 1 as well.
        Check.run("fewer ROUNDS: one", "anew(5, 3, 12, 0, 2) = 1;" + steps("HANDS+CLEAR", 4, 0) + "trials(5) = 14");
        Check.run("fewer ROUNDS: more of them are not fewer", "anew(5, 3, 12, 0, 2) = 1;" + script("HANDS+CLEARB", "HANDS+CLEARB", "HANDS+CLEARB", "HANDS+CLEARB") + "trial(4, 1, 0, 4) = 1; trial(4, 1, 4, 4) = 0; trials(5) = 0");
        Check.run("fewer ROUNDS: one of two is fewer", "anew(5, 3, 12, 0, 2) = 1;" + rounds(2) + "trial(0, 0, 5, 4) = 1; trial(0, 0, 10, 4) = 2; trial(0, 0, 0, 4) = 0");
    }
}
