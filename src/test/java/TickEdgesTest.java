/** Boundary cases of ==== 2 up to the MODES, and of the promises 5, 6, 7; each title has the document's words. */
public final class TickEdgesTest {
    private static final String[] TWINS = {"LEFT", "RIGHT", "CLEAR"};

    public static void main(String[] args) {
        sets();
        ticks();
        now();
        apartStopsAtNine();
        apartElseZero();
        morePatience();
        patienceAtTheReset();
        limit();
        limitIsOfMutedFor();
        mutedThen();
        span();
        since();
        taken();
        unlikeStopsAtNine();
        unlikeMoreThanOne();
        leastCause();
        mutingCause();
        Check.end();
    }

    private static void sets() {
        Check.run("OUTSIDE: the set (0 .. 511): the least", "tick(0) = READY; many(0) = 1");
        Check.run("OUTSIDE: the set (0 .. 511): the most", "tick(511) = STROKE; now = STROKE 2 0 4 0 0 0 0 0 1 1 1 1 NONE; many(0) = 1");
        Check.run("OUTSIDE: the set (0 .. 511): beside it", "tick(-1) = OUTSIDE; tick(512) = OUTSIDE; many(0) = 0; now(0) = READY");
        // A set that were cut to its nine bits would begin a STROKE.
        Check.run("OUTSIDE: the set (0 .. 511): more bits", "tick(575) = OUTSIDE; tick(-449) = OUTSIDE; tick(65599) = OUTSIDE; ticks(575, 1) = OUTSIDE; many(0) = 0; now(0) = READY");
        for (int input = 0; input < 9; input++) {
            Check.run("bit k for INPUT k: " + input, "tick(" + (1 << input) + ") = READY; now = READY 0 0 "
                    + (input == 6 ? 1 : input == 7 ? 4 : 0) + " 0 " + (input / 2 == 0 ? 1 : 0) + " " + (input / 2 == 1 ? 1 : 0)
                    + " " + (input / 2 == 2 ? 1 : 0) + " 0 0 0 0 " + (input == 8 ? 1 : 0) + " NONE");
        }
    }

    private static void ticks() {
        Check.run("n TICKS (0 .. 60): none", "ticks(HANDS+CLEAR, 0) = READY; many(0) = 0; now = READY 0 0 0 0 0 0 0 0 0 0 0 0 NONE; followed = 0 0 0 0 0;"
                + "tick(HANDS+CLEAR) = STROKE; ticks(0, 0) = STROKE; now(10) = 1; many(0) = 1; followed = 0 4 0 0 0");
        Check.run("n TICKS (0 .. 60): one", "ticks(HANDS+CLEAR, 1) = STROKE; many(0) = 1");
        Check.run("n TICKS (0 .. 60): the most", "ticks(CLEAR, 60) = READY; many(0) = 60; ticks(CLEAR, 59) = READY; many(0) = 119");
        Check.run("n TICKS (0 .. 60): beside it", "ticks(HANDS+CLEAR, 61) = OUTSIDE; ticks(HANDS+CLEAR, -1) = OUTSIDE; many(0) = 0; now(0) = READY");
        Check.run("n TICKS (0 .. 60): with a set that is none", "ticks(-1, 0) = OUTSIDE; ticks(512, 0) = OUTSIDE; ticks(512, 60) = OUTSIDE; ticks(512, 61) = OUTSIDE; many(0) = 0");
        Check.run("the same set: n TICKS are as n times one", "anew(2, 3, 12, 1, 2) = 1; ticks(HANDS+CLEAR, 3) = RETURN; now(10) = 3; tick(HANDS+CLEAR) = READY; many(2) = 1;"
                + "anew(2, 3, 12, 1, 2) = 1; ticks(HANDS+CLEAR, 4) = READY; many(2) = 1; now(9) = 1; ticks(HANDS+CLEAR, 1) = READY; now(9) = 0");
    }

    private static void now() {
        Check.run("13 the CAUSE (NONE: it is not): never", "now(13) = NONE; now(14) = OUTSIDE; now(-1) = OUTSIDE; now(12) = 0; now(0) = READY");
        Check.run("13 the CAUSE (NONE: it is not): not any more", "anew(0, 3, 12, 1, 4) = 1; tick(CLEAR+LEFTA) = LOCKED; now(13) = 1; tick(CLEAR+RESET) = LOCKED; now(13) = 1; tick(CLEAR) = READY; now(13) = NONE");
        Check.run("13 the CAUSE: by which it is LOCKED, not by which it was", "anew(0, 3, 12, 1, 4) = 1; tick(CLEAR+LEFTA) = LOCKED; tick(CLEAR+RESET) = LOCKED; tick(CLEAR) = READY; tick(CLEARB) = LOCKED; now(13) = 3;"
                + "tick(RIGHTA) = LOCKED; now(13) = 3; anew(0, 3, 12, 1, 4) = 1; now(13) = NONE");
    }

    private static void apartStopsAtNine() {
        for (int twin = 0; twin < 3; twin++) {
            for (String channel : new String[] {"A", "B"}) {
                StringBuilder text = new StringBuilder("anew(5, 3, 12, 1, 4) = 1;");
                for (int k = 1; k <= 12; k++) {
                    text.append("tick(").append(TWINS[twin]).append(channel).append(") = ").append(k > 5 ? 0 : 1).append(';');
                    for (int other = 0; other < 3; other++) {
                        text.append("now(").append(5 + other).append(") = ").append(other == twin ? Math.min(k, 9) : 0).append(';');
                    }
                }
                text.append("ticks(").append(TWINS[twin]).append(channel).append(", 60) = LOCKED; now(").append(5 + twin).append(") = 9");
                Check.run("APART .. 1 more (9 at most): " + TWINS[twin] + channel, text.toString());
            }
        }
    }

    private static void apartElseZero() {
        for (int twin = 0; twin < 3; twin++) {
            String apart = "; now(" + (5 + twin) + ") = ", name = TWINS[twin];
            Check.run("else 0: none of " + name, "ticks(" + name + "A, 60) = LOCKED" + apart + "9; tick(0) = LOCKED" + apart + "0");
            Check.run("else 0: both of " + name, "ticks(" + name + "A, 60) = LOCKED" + apart + "9; tick(" + name + ") = LOCKED" + apart + "0");
            Check.run("unlike, whichever it is: " + name, "tick(" + name + "A) = READY; tick(" + name + "B) = READY" + apart + "2");
            Check.run("from 0 again: " + name, "ticks(" + name + "A, 2) = READY; tick(" + name + ") = READY" + apart + "0; ticks(" + name + "A, 2) = READY" + apart + "2");
        }
    }

    /** "its APART is more than PATIENCE" */
    private static void morePatience() {
        for (int patience = 0; patience <= 5; patience++) {
            for (int twin = 0; twin < 3; twin++) {
                String apart = "CLEAR+" + TWINS[twin] + "A";
                if (twin == 2) {
                    apart = "CLEARA";
                }
                Check.run("APART is more than PATIENCE " + patience + ": " + TWINS[twin], "anew(" + patience + ", 3, 12, 1, 4) = 1; ticks(" + apart + ", " + patience + ") = READY; now(13) = NONE; many(6) = 0;"
                        + "now(" + (5 + twin) + ") = " + patience + "; tick(" + apart + ") = LOCKED; now(13) = " + (twin + 1) + "; now(" + (5 + twin) + ") = " + (patience + 1));
            }
        }
    }

    /** "LOCKED: if .. there is no CAUSE 1 .. 4", MUTED, so that a CURTAIN that is APART does not bar it as well. */
    private static void patienceAtTheReset() {
        String whole = "CLEAR+MUTE1+MUTE2";
        String[] apart = {whole + "+LEFTA", whole + "+RIGHTA", "CLEARA+MUTE1+MUTE2"};
        for (int patience = 0; patience <= 5; patience++) {
            String locked = "anew(" + patience + ", 3, 30, 1, 4) = 1; valve(0, 1) = 2; ticks(CLEAR, 2) = LOCKED; valve(0, 2) = 1; tick(CLEAR+MUTE1) = LOCKED; tick(" + whole + "+RESET) = LOCKED;";
            for (int twin = 0; twin < 3; twin++) {
                String last = "tick(" + apart[twin] + ") = ", held = "ticks(RESET+" + apart[twin] + ", ";
                String now = "; now(" + (5 + twin) + ") = ";
                Check.run("there is no CAUSE, PATIENCE " + patience + ", one more: " + TWINS[twin], locked + held + patience + ") = LOCKED;" + last + "LOCKED" + now + (patience + 1));
                if (patience > 0) {
                    Check.run("there is no CAUSE, PATIENCE " + patience + ": " + TWINS[twin], locked + held + (patience - 1) + ") = LOCKED;" + last + "READY" + now + patience);
                }
            }
        }
    }

    /** "if it is more than LIMIT, MUTING becomes 4, MUTED FOR 0" */
    private static void limit() {
        for (int limit = 1; limit <= 30; limit++) {
            String start = "anew(2, 3, " + limit + ", 1, 4) = 1; tick(MUTE1) = READY; now(4) = 0;";
            String beyond = "now(3) = 4; now(4) = 0;";
            Check.run("more than LIMIT " + limit + ": both", start + "ticks(MUTE1+MUTE2, " + limit + ") = READY; now(3) = 2; now(4) = " + limit + "; tick(MUTE1+MUTE2) = READY;" + beyond + "tick(MUTE1+MUTE2) = READY;" + beyond);
            Check.run("more than LIMIT " + limit + ": 2 alone", start + "tick(MUTE1+MUTE2) = READY; ticks(MUTE2, " + (limit - 1) + ") = READY; now(3) = " + (limit == 1 ? 2 : 3) + "; now(4) = " + limit + "; tick(MUTE2) = READY;" + beyond);
        }
    }

    private static void limitIsOfMutedFor() {
        Check.run("MUTED FOR, else 0: by 1 alone", "anew(2, 3, 2, 1, 4) = 1; tick(MUTE1) = READY; ticks(MUTE1+MUTE2, 2) = READY; now(4) = 2; tick(MUTE1) = READY; now(3) = 1; now(4) = 0; ticks(MUTE1+MUTE2, 2) = READY; now(3) = 2; now(4) = 2");
        Check.run("MUTED FOR, else 0: by none", "anew(2, 3, 2, 1, 4) = 1; tick(MUTE1) = READY; tick(MUTE1+MUTE2) = READY; tick(MUTE2) = READY; now(4) = 2; tick(0) = READY; now(3) = 0; now(4) = 0");
        Check.run("MUTED FOR, 2 and 3 alike", "anew(2, 3, 5, 1, 4) = 1; tick(MUTE1) = READY; tick(MUTE1+MUTE2) = READY; tick(MUTE2) = READY; tick(MUTE1+MUTE2) = READY; tick(MUTE2) = READY; now(4) = 4; tick(MUTE2) = READY; now(3) = 3; now(4) = 5; tick(MUTE1+MUTE2) = READY; now(3) = 4; now(4) = 0");
        Check.run("4: none: 0; else 4", "anew(2, 3, 1, 1, 4) = 1; tick(MUTE1) = READY; ticks(MUTE1+MUTE2, 2) = READY; now(3) = 4; tick(MUTE1) = READY; now(3) = 4; tick(MUTE2) = READY; now(3) = 4; tick(0) = READY; now(3) = 0; tick(MUTE1) = READY; now(3) = 1");
    }

    /** "It is MUTED, if MUTING is 2 or 3 then": in the TICK that goes beyond LIMIT it is not any more. */
    private static void mutedThen() {
        String muted = "anew(2, 3, 2, 3, 4) = 1; tick(MUTE1+CLEAR) = READY;";
        Check.run("MUTED then: the last TICK of LIMIT", muted + "tick(MUTE1+MUTE2) = READY; tick(HANDS+MUTE1+MUTE2) = STROKE; now(4) = 2; many(1) = 0");
        Check.run("MUTED then: one TICK more", muted + "ticks(MUTE1+MUTE2, 2) = READY; tick(HANDS+MUTE1+MUTE2) = READY; now(3) = 4; now(1) = 2");
        Check.run("MUTED then: the first TICK in 2", muted + "tick(HANDS+MUTE1+MUTE2) = STROKE; many(1) = 0");
        Check.run("MUTED then: a TICK in 3", muted + "tick(MUTE1+MUTE2) = READY; tick(HANDS+MUTE2) = STROKE; now(3) = 3; many(1) = 0");
        Check.run("MUTED then: not in 1", muted + "tick(HANDS+MUTE1) = READY; now(3) = 1");
        Check.run("a DANGER, it is not MUTED: beyond LIMIT", muted + "tick(HANDS+MUTE1+MUTE2) = STROKE; tick(HANDS+MUTE1+MUTE2) = STROKE; many(1) = 0; tick(HANDS+MUTE1+MUTE2) = LOCKED; now(10) = 3; many(1) = 1; now(13) = 5");
        String locked = "anew(2, 3, 2, 0, 4) = 1; tick(HANDS+CLEAR) = STROKE; tick(HANDS+CLEAR+MUTE2) = LOCKED; tick(CLEAR) = LOCKED; tick(MUTE1) = LOCKED;";
        Check.run("LOCKED: it is not BARRED: MUTED up to LIMIT", locked + "tick(MUTE1+MUTE2+RESET) = LOCKED; tick(MUTE1+MUTE2) = STOPPED; now(4) = 2");
        Check.run("LOCKED: it is not BARRED: beyond LIMIT", locked + "tick(MUTE1+MUTE2) = LOCKED; tick(MUTE1+MUTE2+RESET) = LOCKED; tick(MUTE1+MUTE2) = LOCKED; now(3) = 4");
        Check.run("LOCKED: MUTING 4 alone keeps nothing LOCKED", locked + "ticks(MUTE1+MUTE2, 2) = LOCKED; tick(MUTE1+MUTE2+RESET+CLEAR) = LOCKED; now(3) = 4; tick(CLEAR+MUTE1) = STOPPED; now(3) = 4");
    }

    /** "SINCE 1 more, and 3 if that is more than SPAN, else 1" */
    private static void span() {
        for (int span = 1; span <= 9; span++) {
            for (int one = 0; one < 2; one++) {
                String start = "anew(2, " + span + ", 12, 1, 4) = 1; ticks(CLEAR+" + TWINS[one] + ", " + span + ") = READY; now(1) = 1; now(2) = " + span + ";";
                Check.run("SPAN " + span + ", at its last: " + TWINS[one], start + "tick(HANDS+CLEAR) = STROKE; now(1) = 2; now(2) = 0");
                Check.run("more than SPAN " + span + ": " + TWINS[one], start + "tick(CLEAR+" + TWINS[one] + ") = READY; now(1) = 3; now(2) = 0; tick(HANDS+CLEAR) = READY; now(1) = 3");
                Check.run("SPAN " + span + ", both in turn: " + TWINS[one], start + "tick(CLEAR+" + TWINS[1 - one] + ") = READY; now(1) = 3; now(2) = 0");
            }
        }
    }

    /** "(SINCE is 0, if HANDS are not 1.)" */
    private static void since() {
        Check.run("SINCE is 0: let go", "ticks(LEFT+CLEAR, 2) = READY; now(2) = 2; tick(CLEAR) = READY; now(1) = 0; now(2) = 0; tick(RIGHT+CLEAR) = READY; now(2) = 1; ticks(RIGHT+CLEAR, 2) = READY; now(1) = 1; now(2) = 3");
        Check.run("SINCE is 0: both", "ticks(LEFT+CLEAR, 3) = READY; tick(HANDS) = READY; now(1) = 2; now(2) = 0; tick(LEFT) = READY; now(1) = 3; now(2) = 0");
        Check.run("SINCE is 0: 3", "ticks(LEFT+CLEAR, 60) = READY; now(1) = 3; now(2) = 0; tick(0) = READY; tick(LEFT) = READY; now(1) = 1; now(2) = 1");
        Check.run("0: both ON: 2, without a SINCE", "tick(HANDS) = READY; now(1) = 2; now(2) = 0; tick(0) = READY; now(1) = 0");
        Check.run("3: none: 0; else 3", "ticks(LEFT, 4) = READY; tick(RIGHT) = READY; now(1) = 3; tick(HANDS) = READY; now(1) = 3; tick(LEFTA+RIGHTB) = READY; now(1) = 0");
        Check.run("1: none: 0, one channel of each is none", "tick(LEFT) = READY; now(1) = 1; tick(LEFTA+RIGHTA) = READY; now(1) = 0; now(2) = 0");
    }

    /** "They are TAKEN, if HANDS became 2 and were not 2 ahead of this TICK." */
    private static void taken() {
        Check.run("TAKEN: from 0", "tick(HANDS+CLEAR) = STROKE");
        Check.run("TAKEN: from 1", "tick(RIGHT+CLEAR) = READY; tick(HANDS+CLEAR) = STROKE");
        Check.run("not TAKEN: from 2", "tick(HANDS) = READY; ticks(HANDS+CLEAR, 60) = READY; now(1) = 2; now(10) = 0");
        Check.run("not TAKEN: from 3", "ticks(RIGHT+CLEAR, 4) = READY; ticks(HANDS+CLEAR, 60) = READY; now(1) = 3");
        Check.run("let go between strokes", "anew(2, 3, 12, 1, 2) = 1; ticks(HANDS+CLEAR, 4) = READY; ticks(HANDS+CLEAR, 60) = READY; many(2) = 1; tick(CLEAR) = READY; tick(HANDS+CLEAR) = STROKE");
        Check.run("STOPPED: not TAKEN: held while the curtain was in", "tick(HANDS+CLEAR) = STROKE; tick(HANDS) = STOPPED; now(1) = 2; ticks(HANDS+CLEAR, 60) = STOPPED; tick(CLEAR) = STOPPED; tick(HANDS+CLEAR) = STROKE");
        Check.run("STOPPED: TAKEN, but BARRED", "tick(HANDS+CLEAR) = STROKE; tick(CLEAR) = STOPPED; tick(HANDS+CLEARA) = STOPPED; now(1) = 2; tick(HANDS+CLEAR) = STOPPED");
        Check.run("STROKE: HANDS are not 2: 3", "tick(HANDS+CLEAR) = STROKE; tick(LEFT+CLEAR) = STOPPED; now(1) = 3");
        Check.run("STROKE: HANDS are not 2: 0", "tick(HANDS+CLEAR) = STROKE; tick(CLEAR+LEFTA+RIGHTA) = STOPPED; now(1) = 0");
        Check.run("RETURN asks for no HANDS and no CURTAIN", "ticks(HANDS+CLEAR, 4) = RETURN; tick(0) = RETURN; tick(LEFT) = RETURN; now(10) = 6");
    }

    private static void unlikeStopsAtNine() {
        for (int k = 0; k < 2; k++) {
            StringBuilder text = new StringBuilder("valve(" + k + ", 1) = 2;");
            for (int n = 1; n <= 12; n++) {
                text.append("tick(CLEAR) = ").append(n > 1 ? 0 : 1).append("; now(8) = ").append(Math.min(n, 9)).append(';');
            }
            text.append("ticks(CLEAR, 60) = LOCKED; now(8) = 9; valve(").append(k).append(", 0) = 1; tick(CLEAR) = LOCKED; now(8) = 0;");
            text.append("valve(").append(k).append(", 1) = 0; tick(CLEAR) = LOCKED; now(8) = 1");
            Check.run("UNLIKE .. 1 more (9 at most): VALVE " + k, text.toString());
        }
        Check.run("UNLIKE: both are no more than one", "valve(0, 1) = 2; valve(1, 1) = 2; tick(CLEAR) = READY; now(8) = 1; ticks(CLEAR, 20) = LOCKED; now(8) = 9");
        Check.run("UNLIKE: one open and one closed", "valve(0, 1) = 2; valve(1, 0) = 2; tick(CLEAR) = READY; now(8) = 1; tick(CLEAR) = LOCKED; now(8) = 2; now(10) = 0");
    }

    /** "4: UNLIKE is more than 1" */
    private static void unlikeMoreThanOne() {
        for (int k = 0; k < 2; k++) {
            Check.run("UNLIKE is more than 1: open, VALVE " + k, "valve(" + k + ", 1) = 2; tick(CLEAR) = READY; now(8) = 1; now(13) = NONE; tick(CLEAR) = LOCKED; now(8) = 2; now(13) = 4");
            Check.run("UNLIKE is more than 1: closed, VALVE " + k, "valve(" + k + ", 0) = 2; tick(HANDS+CLEAR) = STROKE; now(8) = 0; tick(HANDS+CLEAR) = STROKE; now(8) = 1; tick(HANDS+CLEAR) = LOCKED; now(8) = 2; now(13) = 4; tick(CLEAR) = LOCKED; now(8) = 0");
            Check.run("UNLIKE 1, then like: VALVE " + k, "valve(" + k + ", 1) = 2; tick(CLEAR) = READY; now(8) = 1; valve(" + k + ", 2) = 1; tick(CLEAR) = READY; now(8) = 0; valve(" + k + ", 1) = 2; tick(CLEAR) = READY; now(8) = 1");
        }
        Check.run("as the COMMAND tells: that of the TICK ahead", "tick(HANDS+CLEAR) = STROKE; valve(0, 0) = 2; tick(CLEAR) = STOPPED; now(8) = 1; tick(CLEAR) = STOPPED; now(8) = 0");
        Check.run("LOCKED: UNLIKE 1 is no CAUSE", "anew(0, 3, 12, 1, 4) = 1; tick(CLEAR+LEFTA) = LOCKED; tick(CLEAR+RESET) = LOCKED; valve(0, 1) = 2; tick(CLEAR) = READY; now(8) = 1");
        Check.run("LOCKED: UNLIKE 2 is one", "anew(0, 3, 12, 1, 4) = 1; tick(CLEAR+LEFTA) = LOCKED; valve(0, 1) = 2; tick(CLEAR+RESET) = LOCKED; tick(CLEAR) = LOCKED; now(8) = 2; now(13) = 1");
    }

    /** "LOCKED (by the least CAUSE there is ..)" */
    private static void leastCause() {
        String start = "anew(0, 3, 12, 0, 4) = 1; valve(0, 0) = 2; ticks(HANDS+CLEAR, 2) = STROKE; now(8) = 1;";
        Check.run("the least CAUSE of all five", start + "tick(LEFTA+RIGHTA+CLEARA+MUTE2) = LOCKED; now(13) = 1; now(3) = 4; now(8) = 2");
        Check.run("the least CAUSE of 2 .. 5", start + "tick(LEFT+RIGHTA+CLEARA+MUTE2) = LOCKED; now(13) = 2");
        Check.run("the least CAUSE of 3 .. 5", start + "tick(HANDS+CLEARA+MUTE2) = LOCKED; now(13) = 3");
        Check.run("the least CAUSE of 4, 5", start + "tick(HANDS+CLEAR+MUTE2) = LOCKED; now(13) = 4; locked(4, NONE) = 1; locked(5, NONE) = 0");
        Check.run("CAUSE 5 alone", "anew(0, 3, 12, 0, 4) = 1; ticks(HANDS+CLEAR, 2) = STROKE; tick(HANDS+CLEAR+MUTE2) = LOCKED; now(13) = 5");
        Check.run("a CAUSE goes ahead of what the MODE would do", "anew(0, 3, 12, 0, 4) = 1; tick(HANDS+CLEARA) = LOCKED; now(1) = 2; now(13) = 3; now(9) = 0");
        Check.run("the MODE is not LOCKED: it becomes so once", "anew(0, 3, 12, 0, 4) = 1; ticks(LEFTA, 5) = LOCKED; ticks(RIGHTA, 5) = LOCKED; many(6) = 1; locked(2, NONE) = 0; now(13) = 1");
    }

    /** "5: MUTING is 4 and the MODE is STROKE" */
    private static void mutingCause() {
        Check.run("MUTING is 4, but READY", "ticks(CLEAR+MUTE2, 60) = READY; now(3) = 4");
        Check.run("MUTING is 4, READY ahead of this TICK", "tick(HANDS+CLEAR+MUTE2) = STROKE; now(3) = 4; now(13) = NONE");
        Check.run("MUTING is 4 and STROKE", "tick(HANDS+CLEAR) = STROKE; tick(CLEAR+MUTE2) = LOCKED; now(13) = 5");
        Check.run("MUTING is 4, but STOPPED", "tick(HANDS+CLEAR) = STROKE; tick(CLEAR) = STOPPED; ticks(CLEAR+MUTE2, 60) = STOPPED; now(3) = 4");
        Check.run("MUTING is 4, but RETURN", "ticks(HANDS+CLEAR, 4) = RETURN; ticks(HANDS+CLEAR+MUTE2, 3) = RETURN; now(3) = 4; now(10) = 7");
        Check.run("MUTING is 4 with the TICK that ends at BOTTOM", "ticks(HANDS+CLEAR, 3) = STROKE; tick(HANDS+CLEAR+MUTE2) = LOCKED; now(10) = 4; now(13) = 5; locked(5, 3) = 1");
        Check.run("MUTING is 4 by LIMIT, and STROKE", "anew(2, 3, 1, 0, 9) = 1; tick(HANDS+CLEAR+MUTE1) = STROKE; tick(HANDS+CLEAR+MUTE1+MUTE2) = STROKE; tick(HANDS+CLEAR+MUTE2) = LOCKED; now(13) = 5; locked(5, 2) = 1");
        Check.run("2: none: 4, and STROKE", "tick(HANDS+CLEAR+MUTE1) = STROKE; tick(HANDS+CLEAR+MUTE1+MUTE2) = STROKE; tick(HANDS+CLEAR) = LOCKED; now(3) = 4; now(13) = 5");
        Check.run("3: none: 0, and STROKE goes on", "anew(2, 3, 12, 1, 9) = 1; tick(HANDS+CLEAR+MUTE1) = STROKE; tick(HANDS+MUTE1+MUTE2) = STROKE; tick(HANDS+MUTE2) = STROKE; tick(HANDS+CLEAR) = STROKE; now(3) = 0; many(1) = 0");
    }
}
