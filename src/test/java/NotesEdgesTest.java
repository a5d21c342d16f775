/** Boundary cases of ==== 3 and of the promises 9 to 13 and 20; each title has the document's words. */
public final class NotesEdgesTest {
    private static final String[] LOCKS = {"", "tick(CLEAR+LEFTA) = LOCKED;", "tick(CLEAR+RIGHTA) = LOCKED;", "tick(CLEARA) = LOCKED;",
        "valve(0, 1) = 2; ticks(CLEAR, 2) = LOCKED; valve(0, 2) = 1;", "tick(HANDS+CLEAR) = STROKE; tick(HANDS+CLEAR+MUTE2) = LOCKED;"};
    private static final String OPEN = "tick(CLEAR+RESET) = LOCKED;";

    public static void main(String[] args) {
        leastSet();
        noneLeads();
        leadsByWhatIsStuck();
        nothingNoted();
        everyPosition();
        beyondThePositionsOfThePress();
        anyPosition();
        everyOrderOfTwoCauses();
        allCauses();
        sameCauseAgain();
        followedByItself();
        everyModeFollowed();
        placesOfAnyCause();
        manyAtFirst();
        manyTicks();
        manyStuck();
        manySteps();
        manyDangersAndRounds();
        sinceAnew();
        Check.end();
    }

    /** "The least set with which the next TICK would end in a MODE" */
    private static void leastSet() {
        Check.run("the least set: 0", "leadsTo(1) = 0; leadsTo(-1) = OUTSIDE; leadsTo(5) = OUTSIDE");
        Check.run("the least set: 1", "anew(0, 3, 12, 1, 4) = 1; leadsTo(0) = 1");
        Check.run("the least set, which only MUTE 1 makes a STROKE", "tick(HANDS+CLEAR+MUTE1) = STROKE; tick(HANDS+CLEAR+MUTE1+MUTE2) = STROKE; leadsTo(2) = 127; leadsTo(0) = 0; leadsTo(3) = 64");
        Check.run("the least set, which only MUTE 2 makes a STROKE", "tick(HANDS+CLEAR+MUTE1) = STROKE; tick(HANDS+CLEAR+MUTE1+MUTE2) = STROKE; stick(4, 0) = 2; leadsTo(2) = 143");
        // LOCKED, RESET seen, and everything else opens it: only RESET itself keeps it LOCKED.
        Check.run("the least set, which only RESET makes: 256", "anew(0, 3, 12, 1, 4) = 1; tick(CLEAR+LEFTA) = LOCKED; tick(CLEAR+RESET) = LOCKED; stick(0, 0) = 2; stick(1, 0) = 2; stick(2, 0) = 2; stick(3, 0) = 2; stick(4, 1) = 2; stick(5, 1) = 2;"
                + "leadsTo(1) = 0; leadsTo(0) = 256; stick(8, 0) = 2; leadsTo(0) = NONE; stick(8, 1) = 0; leadsTo(0) = 0; leadsTo(1) = NONE");
    }

    private static void noneLeads() {
        Check.run("NONE: with none it would: READY", "leadsTo(0) = NONE; leadsTo(3) = NONE; leadsTo(4) = NONE");
        Check.run("NONE: with none it would: LOCKED", "anew(0, 3, 12, 0, 4) = 1; tick(CLEAR+LEFTA) = LOCKED; leadsTo(0) = 0; leadsTo(1) = NONE; leadsTo(2) = NONE; leadsTo(3) = NONE; leadsTo(4) = NONE");
        Check.run("one TICK ahead of BOTTOM there is no STROKE", "ticks(HANDS+CLEAR, 3) = STROKE; leadsTo(2) = NONE; leadsTo(4) = 63; leadsTo(3) = 0");
        Check.run("two TICKS ahead of BOTTOM there is no RETURN", "ticks(HANDS+CLEAR, 2) = STROKE; leadsTo(2) = 63; leadsTo(4) = NONE");
        Check.run("one TICK ahead of the top there is no RETURN", "ticks(HANDS+CLEAR, 7) = RETURN; leadsTo(4) = NONE; leadsTo(1) = 0; leadsTo(0) = NONE");
        Check.run("two TICKS ahead of the top there is no READY", "ticks(HANDS+CLEAR, 6) = RETURN; leadsTo(4) = 0; leadsTo(1) = NONE");
        // APART 2 with PATIENCE 2: the next TICK APART locks it.
        Check.run("APART at PATIENCE", "ticks(CLEAR+RIGHTB, 2) = READY; leadsTo(0) = 4; ticks(CLEAR, 1) = READY; leadsTo(0) = NONE");
        Check.run("SINCE at SPAN: the last TICK for the other hand", "ticks(LEFT+CLEAR, 3) = READY; leadsTo(2) = 63; tick(LEFT+CLEAR) = READY; leadsTo(2) = NONE");
        Check.run("hands held: not TAKEN", "tick(HANDS) = READY; leadsTo(2) = NONE; tick(0) = READY; leadsTo(2) = 63");
    }

    private static void leadsByWhatIsStuck() {
        Check.run("what is STUCK counts", "stick(0, 1) = 2; stick(1, 1) = 2; stick(2, 1) = 2; stick(3, 1) = 2; leadsTo(2) = 48; stick(5, 1) = 2; leadsTo(2) = 16; stick(4, 0) = 2; leadsTo(2) = NONE");
        Check.run("a VALVE that is STUCK counts", "valve(0, 1) = 2; leadsTo(0) = NONE; tick(CLEAR) = READY; leadsTo(0) = 0; leadsTo(1) = NONE; valve(0, 2) = 1; leadsTo(0) = NONE; leadsTo(1) = 0");
    }

    private static void nothingNoted() {
        Check.run("nothing NOTED yet: a TICK that does not lock", "ticks(HANDS+CLEAR, 60) = READY; locked(1, 0) = 0; locked(5, 17) = 0; locked(1, NONE) = 0; cause(0) = NONE; cause(4) = NONE; places() = 0; many(6) = 0");
        Check.run("nothing NOTED by what is only asked", "anew(0, 3, 12, 1, 4) = 1; step(CLEAR+LEFTA) = 1; trial(8, 0, 0, 3) = LOCKED; trials(2) = 16; leadsTo(0) = 1; reach(CLEAR+LEFTA, 0, 5, 10) = 1;"
                + "locked(1, NONE) = 0; cause(0) = NONE; places() = 0; followed = 0 0 0 0 0; many = 0 0 0 1 0 0 0");
    }

    /** "at a POSITION (0 .. 17)": OVERRUN 0 and BOTTOM 9, and a lock at each POSITION by turns */
    private static void everyPosition() {
        StringBuilder text = new StringBuilder("anew(0, 3, 12, 0, 9) = 1;");
        for (int position = 0; position < 18; position++) {
            text.append("now(10) = ").append(position).append(';').append(LOCKS[1]).append("locked(1, ").append(position).append(") = 1; places() = ").append(position + 1).append(';');
            text.append(OPEN).append("tick(CLEAR) = ").append(position == 0 ? 1 : 3).append(";tick(HANDS+CLEAR) = ").append(position < 8 ? 2 : position < 17 ? 4 : 1).append(';');
        }
        text.append("now(10) = 0; many(2) = 1; many(6) = 18; locked(1, NONE) = 18; locked(2, NONE) = 0; locked(1, 18) = OUTSIDE; locked(1, -1) = OUTSIDE; cause(0) = 1; cause(1) = NONE;");
        for (int position = 0; position < 18; position++) {
            text.append("locked(1, ").append(position).append(") = 1;");
        }
        Check.run("at a POSITION (0 .. 17)", text.toString());
    }

    private static void beyondThePositionsOfThePress() {
        Check.run("POSITION (0 .. 17), whatever BOTTOM is", "anew(0, 3, 12, 0, 2) = 1; locked(1, 3) = 0; locked(1, 4) = 0; locked(1, 17) = 0; locked(1, 18) = OUTSIDE; locked(0, 17) = UNKNOWN; locked(6, 18) = UNKNOWN");
    }

    private static void anyPosition() {
        Check.run("NONE for the POSITION: at any", "anew(0, 3, 12, 0, 4) = 1;" + LOCKS[1] + "locked(1, NONE) = 1;" + OPEN + "tick(CLEAR) = READY;" + LOCKS[1] + "locked(1, NONE) = 2;" + OPEN + "tick(CLEAR) = READY; tick(HANDS+CLEAR) = STROKE;"
                + LOCKS[1] + "locked(1, 0) = 2; locked(1, 1) = 1; locked(1, NONE) = 3; locked(1, -8) = OUTSIDE; locked(1, -10) = OUTSIDE; locked(NONE, 0) = UNKNOWN");
    }

    private static void everyOrderOfTwoCauses() {
        for (int a = 1; a <= 5; a++) {
            for (int b = 1; b <= 5; b++) {
                // A STROKE (for CAUSE 5) leaves the top, so what opens it again may be either MODE.
                String between = OPEN + "tick(CLEAR) = " + (a == 5 ? 3 : 1) + ";";
                Check.run("by when it became LOCKED by it first: " + a + ", " + b, "anew(0, 3, 12, 0, 9) = 1;" + LOCKS[a] + "cause(0) = " + a + "; cause(1) = NONE;" + between + LOCKS[b]
                        + "now(13) = " + b + "; cause(0) = " + a + "; cause(1) = " + (a == b ? "NONE" : b) + "; cause(2) = NONE; many(6) = 2; locked(" + a + ", NONE) = " + (a == b ? 2 : 1));
            }
        }
    }

    private static void allCauses() {
        for (int first = 1; first <= 5; first++) {
            StringBuilder text = new StringBuilder("anew(0, 3, 12, 0, 9) = 1;");
            int position = 0;
            for (int k = 0; k < 5; k++) {
                int cause = (first - 1 + k) % 5 + 1;
                position += cause == 5 ? 1 : 0;
                text.append(LOCKS[cause]).append("cause(").append(k).append(") = ").append(cause).append(';');
                text.append(OPEN).append("tick(CLEAR) = ").append(position == 0 ? 1 : 3).append(';');
            }
            text.append("cause(5) = OUTSIDE; cause(-1) = OUTSIDE; many(6) = 5;").append(LOCKS[first == 5 ? 4 : first]).append("cause(0) = ").append(first).append("; cause(4) = ").append((first + 3) % 5 + 1);
            Check.run("k (0 .. 4): all five, from " + first, text.toString());
        }
    }

    private static void sameCauseAgain() {
        Check.run("how often: not while it is LOCKED", "anew(0, 3, 12, 0, 9) = 1; ticks(CLEAR+LEFTA, 60) = LOCKED; locked(1, 0) = 1; many(6) = 1");
        Check.run("a refused call NOTES nothing", "anew(0, 3, 12, 0, 9) = 1; tick(513) = OUTSIDE; ticks(CLEAR+LEFTA, 61) = OUTSIDE; ticks(CLEAR+LEFTA, 0) = READY; many(6) = 0; followed = 0 0 0 0 0; many(0) = 0");
    }

    private static void followedByItself() {
        Check.run("MODES behind a TICK: the same one", "tick(CLEAR) = READY; followed(1) = 2");
        Check.run("MODES behind a TICK: not those of a MODE that was never ahead", "tick(HANDS+CLEAR) = STROKE; followed = 0 4 0 0 0; followed(5) = OUTSIDE; followed(-1) = OUTSIDE");
        // STROKE that comes to BOTTOM in the same TICK is RETURN behind it.
        Check.run("behind a TICK: not in its midst", "anew(2, 3, 12, 3, 2) = 1; tick(HANDS+CLEAR) = STROKE; tick(HANDS+CLEAR) = RETURN; followed(2) = 16; tick(CLEAR) = RETURN; tick(CLEAR) = READY; followed = 0 4 16 0 18");
    }

    private static void everyModeFollowed() {
        String text = "anew(0, 3, 12, 0, 2) = 1; tick(CLEAR) = READY;" + LOCKS[1] + OPEN + "tick(CLEAR) = READY; followed = 3 3 0 0 0;"
                + "tick(HANDS+CLEAR) = STROKE; followed = 3 7 0 0 0; tick(CLEAR) = STOPPED; tick(CLEAR) = STOPPED; followed = 3 7 8 8 0;" + LOCKS[1] + OPEN + "tick(CLEAR) = STOPPED; followed = 11 7 8 9 0;"
                + "tick(HANDS+CLEAR) = RETURN; followed = 11 7 8 25 0; tick(CLEAR) = RETURN; followed = 11 7 8 25 16; tick(CLEAR) = READY; followed = 11 7 8 25 18;"
                + "tick(HANDS+CLEAR) = STROKE; tick(HANDS+CLEAR) = RETURN; followed = 11 7 24 25 18;" + LOCKS[1] + "followed = 11 7 24 25 19";
        Check.run("which MODES were behind a TICK with which ahead of it", text);
    }

    private static void placesOfAnyCause() {
        Check.run("places: by any CAUSE, each POSITION once", "anew(0, 3, 12, 0, 9) = 1; places() = 0;" + LOCKS[1] + "places() = 1;" + OPEN + "tick(CLEAR) = READY;" + LOCKS[2] + "places() = 1;" + OPEN + "tick(CLEAR) = READY;"
                + LOCKS[5] + "locked(5, 1) = 1; places() = 2;" + OPEN + "tick(CLEAR) = STOPPED;" + LOCKS[3] + "places() = 2; many(6) = 4");
    }

    private static void manyAtFirst() {
        Check.run("How many: at first", "many = 0 0 0 0 0 0 0; many(-1) = OUTSIDE; many(7) = OUTSIDE");
    }

    private static void manyTicks() {
        StringBuilder text = new StringBuilder();
        for (int k = 1; k <= 500; k++) {
            text.append("ticks(CLEAR, 60) = READY;");
        }
        Check.run("TICKS since anew(): as many as there can be", text + "many(0) = 30000");
        Check.run("TICKS since anew(): none by what is only asked", "step(HANDS+CLEAR) = 1; leadsTo(2) = 63; trial(0, 0, 0, 3) = READY; trials(0) = 18; reach(0, 3, 5, 0) = 14; many(0) = 0; many(1) = 0; many(2) = 0");
    }

    private static void manyStuck() {
        StringBuilder text = new StringBuilder();
        for (int input = 0; input < 9; input++) {
            text.append("many(4) = ").append(input).append("; stick(").append(input).append(", ").append(input % 2).append(") = 2;");
        }
        text.append("many(4) = 9; stick(8, 1) = 0; many(4) = 9; stick(0, 2) = 0; many(4) = 8; stick(0, 2) = 2; many(4) = 8; stick(9, 2) = UNKNOWN; stick(1, 3) = OUTSIDE; many(4) = 8; many(5) = 0");
        Check.run("INPUTS that are STUCK", text.toString());
        Check.run("VALVES that are STUCK", "many(5) = 0; valve(0, 0) = 2; many(5) = 1; valve(1, 1) = 2; many(5) = 2; valve(0, 1) = 0; many(5) = 2; valve(2, 2) = UNKNOWN; valve(1, 3) = OUTSIDE; many(5) = 2; valve(1, 2) = 1; many(5) = 1; valve(0, 2) = 1; many(5) = 0; many(4) = 0");
    }

    private static void manySteps() {
        Check.run("STEPS of the SCRIPT", "step(0) = 1; many(3) = 1; step(512) = OUTSIDE; many(3) = 1; wipe() = 1; many(3) = 0");
        Check.run("STEPS of the SCRIPT: a full one", Ways.FULL + "; many(3) = 32; step(0) = FULL; many(3) = 32");
    }

    private static void manyDangersAndRounds() {
        Check.run("DANGERS, ROUNDS: those of the press alone", "stick(4, 1) = 2; stick(5, 1) = 2; ticks(HANDS, 8) = READY; many(1) = 4; many(2) = 1; step(HANDS) = 1; trial(4, 1, 0, 0) = 0; reach(HANDS, 0, 5, 1) = 0; many(1) = 4; many(2) = 1");
        StringBuilder text = new StringBuilder("anew(2, 3, 12, 0, 2) = 1;");
        for (int round = 1; round <= 100; round++) {
            text.append("ticks(HANDS+CLEAR, 4) = READY; tick(CLEAR) = READY; many(2) = ").append(round).append(';');
        }
        Check.run("ROUNDS: a hundred", text + "many(0) = 500; many(1) = 0");
    }

    private static void sinceAnew() {
        Check.run("since anew(): all counts", "anew(0, 3, 12, 3, 2) = 1; step(1) = 1; tick(HANDS+CLEAR) = STROKE; ticks(0, 3) = READY; tick(LEFTA) = LOCKED; many = 5 1 1 1 0 0 1; anew(0, 3, 12, 3, 10) = OUTSIDE; many = 5 1 1 1 0 0 1;"
                + "anew(0, 3, 12, 3, 2) = 1; many = 0 0 0 1 0 0 0; tick(LEFTA) = LOCKED; many = 1 0 0 1 0 0 1");
    }
}
