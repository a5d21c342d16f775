/** Boundary cases of ==== 2 from the MODES on: the lock, the SLIDE, its BRAKE, BOTTOM and top; titles as the document's. */
public final class SlideEdgesTest {
    public static void main(String[] args) {
        resetLetGo();
        readyOrStopped();
        strokeOrReturn();
        command();
        positions();
        brake();
        brakeWithOneValve();
        caughtAtTheTop();
        modesAtTheTop();
        atBottom();
        dangerByPosition();
        dangerByCurtain();
        dangerOnlyIfItMoves();
        lockedAtThePosition();
        Check.end();
    }

    private static String stopAt(int position, int bottom) {
        // OVERRUN 0: the SLIDE stops where it is. Behind BOTTOM only a lock stops it.
        String start = "anew(0, 3, 12, 0, " + bottom + ") = 1; ticks(HANDS+CLEAR, " + position + ") = " + (position == 0 ? 1 : position < bottom ? 2 : 4) + ";";
        return start + "tick(CLEAR+LEFTA) = LOCKED; now(10) = " + position + ";";
    }

    /** "if RESET was SEEN in the TICK ahead and is not now .. HANDS are 0, and it is not BARRED" */
    private static void resetLetGo() {
        String locked = stopAt(1, 4);
        Check.run("RESET was not SEEN", locked + "ticks(CLEAR, 60) = LOCKED");
        Check.run("RESET is SEEN still", locked + "ticks(CLEAR+RESET, 60) = LOCKED");
        Check.run("RESET was SEEN in the TICK ahead, and is not now", locked + "tick(CLEAR+RESET) = LOCKED; tick(CLEAR) = STOPPED");
        Check.run("RESET was SEEN two TICKS ahead", locked + "tick(CLEAR+RESET) = LOCKED; tick(CLEAR+LEFT) = LOCKED; tick(CLEAR) = LOCKED");
        Check.run("RESET was SEEN with the TICK that LOCKED it", "anew(0, 3, 12, 0, 4) = 1; tick(CLEAR+LEFTA+RESET) = LOCKED; now(12) = 1; tick(CLEAR) = READY");
        Check.run("RESET is STUCK at 1: SEEN still", locked + "stick(8, 1) = 2; tick(CLEAR) = LOCKED; tick(CLEAR) = LOCKED; now(12) = 1");
        Check.run("RESET is STUCK at 0 then: not SEEN", locked + "tick(CLEAR+RESET) = LOCKED; stick(8, 0) = 2; tick(CLEAR+RESET) = STOPPED; now(12) = 0");
        Check.run("RESET is STUCK at 0: never SEEN", locked + "stick(8, 0) = 2; tick(CLEAR+RESET) = LOCKED; tick(CLEAR) = LOCKED; now(12) = 0");
        Check.run("RESET is STUCK at 1, then free: was SEEN", locked + "stick(8, 1) = 2; tick(CLEAR) = LOCKED; stick(8, 2) = 1; tick(CLEAR) = STOPPED");
        Check.run("HANDS are 0: one", locked + "tick(CLEAR+RESET) = LOCKED; tick(CLEAR+RIGHT) = LOCKED; now(1) = 1");
        Check.run("HANDS are 0: both", locked + "tick(CLEAR+RESET) = LOCKED; tick(CLEAR+HANDS) = LOCKED; now(1) = 2");
        Check.run("HANDS are 0: 3", locked + "ticks(CLEAR+LEFT, 4) = LOCKED; tick(CLEAR+LEFT+RESET) = LOCKED; tick(CLEAR+LEFT) = LOCKED; now(1) = 3");
        Check.run("HANDS are 0 with this TICK", locked + "tick(CLEAR+HANDS+RESET) = LOCKED; tick(CLEAR) = STOPPED");
        Check.run("it is not BARRED: nothing told", locked + "tick(CLEAR+RESET) = LOCKED; tick(0) = LOCKED");
        Check.run("it is not BARRED with this TICK", locked + "tick(RESET) = LOCKED; tick(CLEAR) = STOPPED");
        Check.run("RESET does nothing to a press that is not LOCKED", "tick(HANDS+CLEAR+RESET) = STROKE; tick(HANDS+CLEAR) = STROKE; now(10) = 2");
    }

    /** "READY, if POSITION is 0, else STOPPED" */
    private static void readyOrStopped() {
        for (int bottom : new int[] {2, 4, 9}) {
            for (int position = 0; position < 2 * bottom; position++) {
                Check.run("READY, if POSITION is 0, else STOPPED: " + position + " of " + bottom, stopAt(position, bottom)
                        + "tick(CLEAR+RESET) = LOCKED; tick(CLEAR) = " + (position == 0 ? 1 : 3) + "; now(10) = " + position);
            }
        }
        // LOCKED at 3 with one TICK of OVERRUN left: with the RESET let go it is STOPPED by POSITION 3 and READY by coming to 0.
        Check.run("POSITION as it is ahead of the move", "anew(0, 3, 12, 2, 2) = 1; ticks(HANDS+CLEAR, 2) = RETURN; tick(CLEAR+LEFTA+RESET) = LOCKED; now(10) = 3; now(11) = 1;"
                + "tick(CLEAR) = READY; now(10) = 0; now(11) = 0; followed(0) = 2; many(2) = 1");
        Check.run("POSITION 0 by the OVERRUN", "anew(0, 3, 12, 1, 2) = 1; ticks(HANDS+CLEAR, 3) = RETURN; tick(CLEAR+LEFTA+RESET) = LOCKED; now(10) = 0; tick(CLEAR) = READY");
    }

    /** "STROKE, if POSITION is less than BOTTOM, else RETURN": a VALVE that stays closed shows it without a move. */
    private static void strokeOrReturn() {
        for (int bottom = 2; bottom <= 9; bottom++) {
            for (int position = 1; position < 2 * bottom; position++) {
                int mode = position < bottom ? 2 : 4;
                Check.run("POSITION is less than BOTTOM " + bottom + ": " + position, stopAt(position, bottom) + "tick(CLEAR+RESET) = LOCKED; tick(CLEAR) = STOPPED; valve(1, 0) = 2;"
                        + "tick(HANDS+CLEAR) = " + mode + "; now(10) = " + position + "; now(9) = 1");
            }
        }
        Check.run("STROKE from one above BOTTOM comes to it and is RETURN", stopAt(3, 4) + "tick(CLEAR+RESET) = LOCKED; tick(CLEAR) = STOPPED; tick(HANDS+CLEAR) = RETURN; now(10) = 4");
        Check.run("RETURN from the last POSITION comes to the top and is READY", stopAt(7, 4) + "tick(CLEAR+RESET) = LOCKED; tick(CLEAR) = STOPPED; tick(HANDS+CLEAR) = READY; now(10) = 0; now(9) = 1; many(2) = 1");
    }

    /** "COMMAND becomes open, if the MODE is STROKE or RETURN, else closed." "(COMMAND stays till the next TICK.)" */
    private static void command() {
        Check.run("COMMAND: READY", "tick(CLEAR) = READY; now(9) = 0");
        Check.run("COMMAND: STROKE, STOPPED", "tick(HANDS+CLEAR) = STROKE; now(9) = 1; tick(CLEAR) = STOPPED; now(9) = 0");
        Check.run("COMMAND: RETURN", "ticks(HANDS+CLEAR, 4) = RETURN; now(9) = 1; tick(CLEAR) = RETURN; now(9) = 1");
        Check.run("COMMAND: LOCKED", "tick(HANDS+CLEAR) = STROKE; tick(HANDS+CLEAR+MUTE2) = LOCKED; now(9) = 0");
        Check.run("COMMAND stays till the next TICK: RETURN became READY", "anew(2, 3, 12, 1, 2) = 1; ticks(HANDS+CLEAR, 4) = READY; now(9) = 1; now(10) = 0; tick(CLEAR) = READY; now(9) = 0; now(10) = 0; now(11) = 0");
        Check.run("COMMAND stays: a VALVE that closes meanwhile is UNLIKE", "anew(2, 3, 12, 1, 2) = 1; ticks(HANDS+CLEAR, 4) = READY; valve(0, 0) = 2; tick(CLEAR) = READY; now(8) = 1; tick(CLEAR) = READY; now(8) = 0");
        Check.run("COMMAND stays closed: STOPPED became READY", "anew(2, 3, 12, 3, 2) = 1; tick(HANDS+CLEAR) = STROKE; ticks(CLEAR, 3) = READY; now(9) = 0; now(10) = 0");
    }

    /** "POSITION becomes 1 more; 0, if it would be 2 BOTTOM", and "At BOTTOM STROKE becomes RETURN" */
    private static void positions() {
        for (int bottom = 2; bottom <= 9; bottom++) {
            StringBuilder text = new StringBuilder("anew(2, 3, 12, 1, " + bottom + ") = 1;");
            for (int round = 0; round < 2; round++) {
                for (int k = 1; k < 2 * bottom; k++) {
                    text.append("tick(HANDS+CLEAR) = ").append(k < bottom ? 2 : 4).append("; now(10) = ").append(k).append("; many(2) = ").append(round).append(';');
                }
                text.append("tick(HANDS+CLEAR) = READY; now(10) = 0; many(2) = ").append(round + 1).append("; tick(CLEAR) = READY;");
            }
            Check.run("POSITION 0 .. 2 BOTTOM - 1: BOTTOM " + bottom, text.toString());
        }
    }

    /** "BRAKE becomes OVERRUN then; or else if BRAKE is above 0, that becomes 1 less then." */
    private static void brake() {
        for (int overrun = 0; overrun <= 3; overrun++) {
            StringBuilder text = new StringBuilder("anew(2, 3, 12, " + overrun + ", 9) = 1; tick(HANDS+CLEAR) = STROKE; now(11) = " + overrun + ";");
            for (int k = 1; k <= 5; k++) {
                text.append("tick(CLEAR) = STOPPED; now(11) = ").append(Math.max(0, overrun - k)).append("; now(10) = ").append(1 + Math.min(k, overrun)).append(';');
            }
            Check.run("BRAKE, OVERRUN " + overrun, text.toString());
        }
        Check.run("BRAKE becomes OVERRUN again", "anew(2, 3, 12, 3, 9) = 1; tick(HANDS+CLEAR) = STROKE; ticks(CLEAR, 2) = STOPPED; now(11) = 1; tick(HANDS+CLEAR) = STROKE; now(11) = 3; now(10) = 4");
        Check.run("BRAKE 0 and closed: it stands", "anew(2, 3, 12, 3, 9) = 1; ticks(CLEAR, 60) = READY; now(10) = 0; now(11) = 0; many(2) = 0");
    }

    private static void brakeWithOneValve() {
        // One VALVE closes in the STROKE: the BRAKE is used up while the COMMAND is open, and the lock comes with the second TICK UNLIKE.
        Check.run("both VALVES are open, or else the BRAKE", "anew(2, 3, 12, 3, 9) = 1; ticks(HANDS+CLEAR, 2) = STROKE; valve(1, 0) = 2; tick(HANDS+CLEAR) = STROKE; now(10) = 3; now(11) = 2; now(8) = 1;"
                + "tick(HANDS+CLEAR) = LOCKED; now(10) = 4; now(11) = 1; now(8) = 2; tick(HANDS+CLEAR) = LOCKED; now(10) = 5; now(11) = 0; tick(HANDS+CLEAR) = LOCKED; now(10) = 5");
        Check.run("both VALVES are open, though the COMMAND is closed", "anew(2, 3, 12, 2, 9) = 1; valve(0, 1) = 2; valve(1, 1) = 2; tick(CLEAR) = READY; now(10) = 1; now(11) = 2; now(9) = 0; valve(0, 2) = 1; tick(CLEAR) = LOCKED; now(10) = 2; now(11) = 1");
        Check.run("BRAKE becomes OVERRUN, and with 0 it stands at once", "anew(2, 3, 12, 0, 9) = 1; tick(HANDS+CLEAR) = STROKE; valve(0, 0) = 2; tick(HANDS+CLEAR) = STROKE; now(10) = 1; now(11) = 0");
    }

    /** "At 0 the SLIDE is caught (BRAKE 0), one of ROUNDS is done" */
    private static void caughtAtTheTop() {
        for (int overrun = 0; overrun <= 3; overrun++) {
            Check.run("caught, RETURN, OVERRUN " + overrun, "anew(2, 3, 12, " + overrun + ", 2) = 1; ticks(HANDS+CLEAR, 3) = RETURN; now(11) = " + overrun + "; many(2) = 0;"
                    + "tick(CLEAR) = READY; now(11) = 0; now(10) = 0; many(2) = 1; ticks(CLEAR, 9) = READY; now(10) = 0; many(2) = 1");
        }
        for (int overrun = 1; overrun <= 3; overrun++) {
            // LOCKED at 2 BOTTOM - 1, so that the BRAKE alone takes it to the top, and no farther.
            Check.run("caught, LOCKED, OVERRUN " + overrun, "anew(0, 3, 12, " + overrun + ", 2) = 1; ticks(HANDS+CLEAR, 3) = RETURN; tick(CLEAR+LEFTA) = LOCKED; now(10) = 0; now(11) = 0; many(2) = 1; ticks(CLEAR, 9) = LOCKED; now(10) = 0; many(2) = 1");
        }
        Check.run("not caught with OVERRUN 0: it stands ahead of the top", "anew(0, 3, 12, 0, 2) = 1; ticks(HANDS+CLEAR, 3) = RETURN; ticks(CLEAR+LEFTA, 9) = LOCKED; now(10) = 3; many(2) = 0");
        // Both VALVES STUCK open: it goes round and round, and BRAKE is 0 at the top alone.
        StringBuilder text = new StringBuilder("anew(2, 3, 12, 3, 2) = 1; valve(0, 1) = 2; valve(1, 1) = 2; tick(CLEAR) = READY; now(11) = 3;");
        for (int k = 2; k <= 12; k++) {
            text.append("tick(CLEAR) = LOCKED; now(10) = ").append(k % 4).append("; now(11) = ").append(k % 4 == 0 ? 0 : 3).append("; many(2) = ").append(k / 4).append(';');
        }
        Check.run("caught each time, and one of ROUNDS each time", text.toString());
    }

    /** "RETURN, STOPPED become READY", and no other MODE does */
    private static void modesAtTheTop() {
        Check.run("RETURN becomes READY", "anew(2, 3, 12, 0, 2) = 1; ticks(HANDS+CLEAR, 4) = READY; followed(4) = 18");
        Check.run("STOPPED becomes READY", "anew(2, 3, 12, 3, 2) = 1; tick(HANDS+CLEAR) = STROKE; ticks(CLEAR, 2) = STOPPED; now(10) = 3; tick(CLEAR) = READY; now(10) = 0; followed(3) = 10; many(2) = 1");
        Check.run("STOPPED becomes READY and is TAKEN from there as STROKE", "anew(2, 3, 12, 3, 2) = 1; tick(HANDS+CLEAR) = STROKE; ticks(CLEAR, 3) = READY; tick(HANDS+CLEAR) = STROKE; now(10) = 1");
        Check.run("LOCKED stays", "anew(0, 3, 12, 3, 2) = 1; tick(HANDS+CLEAR) = STROKE; ticks(CLEAR+LEFTA, 3) = LOCKED; now(10) = 0; many(2) = 1; now(13) = 1");
        Check.run("READY stays", "anew(2, 3, 12, 3, 2) = 1; valve(0, 1) = 2; valve(1, 1) = 2; tick(CLEAR) = READY; valve(0, 2) = 1; valve(1, 2) = 1; ticks(CLEAR, 2) = READY; now(10) = 3; tick(CLEAR) = READY; now(10) = 0; many(2) = 1");
        Check.run("STROKE stays", "anew(2, 3, 12, 3, 2) = 1; valve(0, 1) = 2; valve(1, 1) = 2; tick(CLEAR) = READY; valve(0, 2) = 1; valve(1, 2) = 1; tick(CLEAR) = READY; now(10) = 2;"
                + "tick(HANDS+CLEAR) = STROKE; now(10) = 3; tick(HANDS+CLEAR) = STROKE; now(10) = 0; now(11) = 0; many(2) = 1; tick(HANDS+CLEAR) = STROKE; now(10) = 1");
    }

    /** "At BOTTOM STROKE becomes RETURN", and no other MODE does */
    private static void atBottom() {
        for (int bottom = 2; bottom <= 9; bottom++) {
            String above = "anew(0, 3, 12, 1, " + bottom + ") = 1; ticks(HANDS+CLEAR, " + (bottom - 1) + ") = STROKE;";
            Check.run("At BOTTOM " + bottom + ": STROKE", above + "tick(HANDS+CLEAR) = RETURN; now(10) = " + bottom + "; now(9) = 1");
            Check.run("At BOTTOM " + bottom + ": STOPPED stays", above + "tick(CLEAR) = STOPPED; now(10) = " + bottom + "; now(9) = 0; many(2) = 0; tick(CLEAR) = STOPPED");
            Check.run("At BOTTOM " + bottom + ": LOCKED stays", above + "tick(CLEAR+LEFTA) = LOCKED; now(10) = " + bottom);
        }
        Check.run("At BOTTOM: the BRAKE is not caught", "anew(2, 3, 12, 3, 4) = 1; ticks(HANDS+CLEAR, 3) = STROKE; tick(CLEAR) = STOPPED; now(10) = 4; now(11) = 2; ticks(CLEAR, 9) = STOPPED; now(10) = 6");
        Check.run("At BOTTOM by the BRAKE, STROKE with one VALVE closed", "anew(2, 3, 12, 1, 4) = 1; ticks(HANDS+CLEAR, 3) = STROKE; valve(0, 0) = 2; tick(HANDS+CLEAR) = RETURN; now(10) = 4; now(11) = 0");
    }

    /** "its POSITION is less than BOTTOM", as it is ahead of the move */
    private static void dangerByPosition() {
        for (int bottom = 2; bottom <= 9; bottom++) {
            String start = "anew(5, 3, 12, 0, " + bottom + ") = 1; stick(4, 1) = 2; stick(5, 1) = 2;";
            Check.run("a DANGER in each TICK above BOTTOM " + bottom, start + "ticks(HANDS, " + (bottom - 1) + ") = STROKE; many(1) = " + (bottom - 1) + "; tick(HANDS) = RETURN; many(1) = " + bottom
                    + "; tick(HANDS) = RETURN; many(1) = " + bottom + "; ticks(HANDS, " + (bottom - 1) + ") = READY; many(1) = " + bottom + "; now(10) = 0");
        }
        Check.run("a DANGER from 0", "stick(4, 1) = 2; stick(5, 1) = 2; tick(HANDS) = STROKE; many(1) = 1");
        Check.run("none at BOTTOM by the BRAKE", "anew(2, 3, 12, 3, 2) = 1; tick(HANDS+CLEAR) = STROKE; tick(0) = STOPPED; now(10) = 2; many(1) = 1; tick(0) = STOPPED; now(10) = 3; many(1) = 1; tick(0) = READY; now(10) = 0; many(1) = 1");
    }

    /** "CURTAIN a or b is 0 in the set that was told (SEEN or not)" */
    private static void dangerByCurtain() {
        String moving = "anew(5, 3, 12, 1, 9) = 1; tick(HANDS+CLEAR) = STROKE;";
        Check.run("a DANGER: a is 0", moving + "tick(HANDS+CLEARB) = STOPPED; many(1) = 1");
        Check.run("a DANGER: b is 0", moving + "tick(HANDS+CLEARA) = STOPPED; many(1) = 1");
        Check.run("a DANGER: both are 0", moving + "tick(HANDS) = STOPPED; many(1) = 1");
        Check.run("no DANGER: both are 1", moving + "tick(CLEAR) = STOPPED; many(1) = 0; now(10) = 2");
        Check.run("a DANGER: told 0, STUCK at 1", moving + "stick(4, 1) = 2; tick(HANDS+CLEARB) = STROKE; many(1) = 1");
        Check.run("no DANGER: told 1, STUCK at 0", moving + "stick(4, 0) = 2; stick(5, 0) = 2; tick(HANDS+CLEAR) = STOPPED; now(10) = 2; many(1) = 0");
        Check.run("it is not MUTED: as SEEN, STUCK at 1", "anew(5, 3, 12, 1, 9) = 1; tick(HANDS+CLEAR+MUTE1) = STROKE; stick(6, 1) = 2; stick(7, 1) = 2; tick(HANDS) = STROKE; now(3) = 2; many(1) = 0");
        Check.run("it is not MUTED: as SEEN, STUCK at 0", "anew(5, 3, 12, 1, 9) = 1; tick(HANDS+CLEAR+MUTE1) = STROKE; stick(7, 0) = 2; tick(HANDS+MUTE1+MUTE2) = STOPPED; now(3) = 1; many(1) = 1");
    }

    private static void dangerOnlyIfItMoves() {
        Check.run("If it moves: it does not", "ticks(0, 60) = READY; many(1) = 0; ticks(HANDS, 3) = READY; many(1) = 0");
        Check.run("If it moves: OVERRUN 0", "anew(2, 3, 12, 0, 4) = 1; tick(HANDS+CLEAR) = STROKE; tick(0) = STOPPED; many(1) = 0");
        Check.run("If it moves: by the BRAKE, as often as that", "anew(2, 3, 12, 3, 9) = 1; tick(HANDS+CLEAR) = STROKE; ticks(0, 9) = STOPPED; many(1) = 3");
        Check.run("If it moves: LOCKED too", "anew(2, 3, 12, 3, 9) = 1; tick(HANDS+CLEAR) = STROKE; ticks(MUTE2, 9) = LOCKED; many(1) = 3");
    }

    /** "at the POSITION as it is" */
    private static void lockedAtThePosition() {
        for (int bottom : new int[] {2, 9}) {
            for (int position = 0; position < 2 * bottom; position++) {
                Check.run("LOCKED at the POSITION as it is: " + position, stopAt(position, bottom) + "locked(1, " + position + ") = 1; locked(1, NONE) = 1; places() = 1");
            }
        }
        Check.run("LOCKED at the last POSITION, and moved to the top", "anew(0, 3, 12, 3, 2) = 1; ticks(HANDS+CLEAR, 3) = RETURN; tick(CLEAR+LEFTA) = LOCKED; now(10) = 0; locked(1, 3) = 1; locked(1, 0) = 0");
        Check.run("LOCKED one above BOTTOM, and moved to it", "anew(0, 3, 12, 3, 2) = 1; tick(HANDS+CLEAR) = STROKE; tick(CLEAR+LEFTA) = LOCKED; now(10) = 2; locked(1, 1) = 1; locked(1, 2) = 0");
    }
}
