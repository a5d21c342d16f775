/** Promises 5 (tick), 6 (ticks) and 7 (now): each part of a TICK. */
public final class TickTest {
    public static void main(String[] args) {
        wholeStroke();
        refusals();
        twins();
        mutingTable();
        mutingLimit();
        hands();
        curtain();
        causes();
        reset();
        overrun();
        topAndBottom();
        dangers();
        Check.end();
    }

    private static void wholeStroke() {
        Check.run("a whole stroke", """
                tick(HANDS+CLEAR) = STROKE; now = STROKE 2 0 0 0 0 0 0 0 1 1 1 0 NONE
                tick(HANDS+CLEAR) = STROKE; tick(HANDS+CLEAR) = STROKE; now(10) = 3
                tick(HANDS+CLEAR) = RETURN; now = RETURN 2 0 0 0 0 0 0 0 1 4 1 0 NONE
                ticks(CLEAR, 3) = RETURN; now(10) = 7; many(2) = 0
                tick(0) = READY; now = READY 0 0 0 0 0 0 0 0 1 0 0 0 NONE
                many(2) = 1
                tick(CLEAR) = READY; now(9) = 0; now(10) = 0; now(11) = 0
                """);
        Check.run("ticks as tick", """
                ticks(HANDS+CLEAR, 0) = READY; many(0) = 0; ticks(HANDS+CLEAR, 2) = STROKE; many(0) = 2; now(10) = 2
                ticks(HANDS+CLEAR, 60) = READY; many(0) = 62; ticks(0, 0) = READY
                """);
    }

    private static void refusals() {
        Check.run("refused", """
                tick(HANDS+CLEAR) = STROKE
                tick(-1) = OUTSIDE; tick(512) = OUTSIDE; tick(MAX) = OUTSIDE; tick(MIN) = OUTSIDE
                ticks(-1, 1) = OUTSIDE; ticks(512, 1) = OUTSIDE; ticks(0, -1) = OUTSIDE; ticks(0, 61) = OUTSIDE
                ticks(512, 0) = OUTSIDE; ticks(0, MAX) = OUTSIDE; ticks(MIN, 0) = OUTSIDE
                now(-1) = OUTSIDE; now(14) = OUTSIDE; now(MIN) = OUTSIDE; now(MAX) = OUTSIDE
                many(0) = 1
                now = STROKE 2 0 0 0 0 0 0 0 1 1 1 0 NONE
                """);
        Check.run("edges", "tick(0) = READY; tick(511) = STROKE; ticks(511, 60) = LOCKED; ticks(0, 60) = LOCKED; many(0) = 122; now(13) = 5");
    }

    private static void twins() {
        Check.run("patience 0", "anew(0, 3, 12, 1, 4) = 1; tick(CLEAR+LEFTA) = LOCKED; now(5) = 1; now(13) = 1");
        Check.run("patience 5", "anew(5, 3, 12, 1, 4) = 1; ticks(CLEAR+RIGHTB, 5) = READY; now(6) = 5; tick(CLEAR+RIGHTB) = LOCKED; now(13) = 2");
        Check.run("apart ends at 9", "ticks(CLEARA, 9) = LOCKED; now(7) = 9; tick(CLEARB) = LOCKED; now(7) = 9; tick(0) = LOCKED; now(7) = 0");
        Check.run("each by itself", """
                tick(LEFTA+RIGHTB+CLEARB) = READY; now(5) = 1; now(6) = 1; now(7) = 1
                tick(LEFTB+RIGHT+CLEARB) = READY; now(5) = 2; now(6) = 0; now(7) = 2
                tick(RIGHTA) = READY; now(5) = 0; now(6) = 1; now(7) = 0
                """);
    }

    /** From each MUTING (rows) by none, 1 alone, 2 alone, both (columns). */
    private static void mutingTable() {
        int[][] table = {{0, 1, 4, 4}, {0, 1, 4, 2}, {4, 1, 3, 2}, {0, 4, 3, 2}, {0, 4, 4, 4}};
        String[] ways = {"", "tick(MUTE1) = 1;", "tick(MUTE1) = 1; tick(MUTE1+MUTE2) = 1;",
            "tick(MUTE1) = 1; tick(MUTE1+MUTE2) = 1; tick(MUTE2) = 1;", "tick(MUTE2) = 1;"};
        String[] sets = {"0", "MUTE1", "MUTE2", "MUTE1+MUTE2"};
        for (int from = 0; from < 5; from++) {
            for (int by = 0; by < 4; by++) {
                int then = table[from][by];
                boolean muted = then == 2 || then == 3;
                int ahead = from == 2 ? 1 : from == 3 ? 2 : 0;
                Check.run("muting " + from + " by " + sets[by], ways[from] + " now(3) = " + from + "; now(4) = " + ahead
                        + "; tick(" + sets[by] + ") = READY; now(3) = " + then + "; now(4) = " + (muted ? ahead + 1 : 0));
            }
        }
    }

    private static void mutingLimit() {
        Check.run("limit 1", "anew(2, 3, 1, 1, 4) = 1; tick(MUTE1) = READY; tick(MUTE1+MUTE2) = READY; now(3) = 2; now(4) = 1; tick(MUTE2) = READY; now(3) = 4; now(4) = 0");
        Check.run("limit 12", "tick(MUTE1) = READY; ticks(MUTE1+MUTE2, 12) = READY; now(3) = 2; now(4) = 12; tick(MUTE1+MUTE2) = READY; now(3) = 4; now(4) = 0; tick(MUTE1+MUTE2) = READY; now(3) = 4; now(4) = 0");
        Check.run("limit 30", "anew(2, 3, 30, 1, 4) = 1; tick(MUTE1) = READY; ticks(MUTE1+MUTE2, 15) = READY; ticks(MUTE2, 15) = READY; now(3) = 3; now(4) = 30; tick(MUTE2) = READY; now(3) = 4");
        Check.run("back and on again", "tick(MUTE1) = READY; ticks(MUTE1+MUTE2, 3) = READY; tick(MUTE1) = READY; now(3) = 1; now(4) = 0; tick(MUTE1+MUTE2) = READY; now(4) = 1");
    }

    private static void hands() {
        Check.run("span 3, just in time", "ticks(LEFT+CLEAR, 3) = READY; now(1) = 1; now(2) = 3; tick(HANDS+CLEAR) = STROKE; now(1) = 2; now(2) = 0");
        Check.run("span 3, too late", """
                ticks(RIGHT+CLEAR, 4) = READY; now(1) = 3; now(2) = 0
                tick(HANDS+CLEAR) = READY; now(1) = 3
                tick(LEFT+CLEAR) = READY; now(1) = 3
                tick(CLEAR) = READY; now(1) = 0
                tick(HANDS+CLEAR) = STROKE
                """);
        Check.run("span 1", "anew(2, 1, 12, 1, 4) = 1; tick(LEFT+CLEAR) = READY; now(2) = 1; tick(LEFT+CLEAR) = READY; now(1) = 3; now(2) = 0");
        Check.run("span 9", "anew(2, 9, 12, 1, 4) = 1; ticks(LEFT+CLEAR, 9) = READY; now(1) = 1; now(2) = 9; tick(LEFT+CLEAR) = READY; now(1) = 3");
        Check.run("the other hand in one's stead", "tick(LEFT+CLEAR) = READY; tick(RIGHT+CLEAR) = READY; now(1) = 1; now(2) = 2");
        Check.run("one let go, and none", "tick(LEFT+CLEAR) = READY; tick(CLEAR) = READY; now(1) = 0; now(2) = 0; tick(LEFT+CLEAR) = READY; now(2) = 1");
        Check.run("one channel is no hand", "tick(LEFT+RIGHTA+CLEAR) = READY; now(1) = 1; tick(LEFTA+RIGHTA+CLEAR) = READY; now(1) = 0");
        Check.run("one hand lets go", "tick(HANDS+CLEAR) = STROKE; tick(RIGHT+CLEAR) = STOPPED; now(1) = 3; tick(HANDS+CLEAR) = STOPPED; now(1) = 3");
        Check.run("both let go", "tick(HANDS+CLEAR) = STROKE; tick(CLEAR) = STOPPED; now(1) = 0; tick(HANDS+CLEAR) = STROKE");
        Check.run("held, not taken", "tick(HANDS) = READY; now(1) = 2; tick(HANDS+CLEAR) = READY; tick(CLEAR) = READY; tick(HANDS+CLEAR) = STROKE");
    }

    private static void curtain() {
        Check.run("barred ahead of the stroke", "tick(HANDS) = READY; now(10) = 0");
        Check.run("barred in the stroke", "tick(HANDS+CLEAR) = STROKE; tick(HANDS) = STOPPED; now(9) = 0");
        Check.run("one channel bars", "tick(HANDS+CLEAR) = STROKE; tick(HANDS+CLEARB) = STOPPED; now(7) = 1");
        Check.run("muted", "tick(CLEAR+MUTE1) = READY; tick(CLEAR+MUTE1+MUTE2) = READY; tick(HANDS+MUTE1+MUTE2) = STROKE; tick(HANDS+MUTE2) = STROKE; tick(HANDS) = STOPPED; now(3) = 0");
        Check.run("not muted by the first alone", "tick(CLEAR+MUTE1) = READY; tick(HANDS+MUTE1) = READY");
        Check.run("barred while it returns", "ticks(HANDS+CLEAR, 4) = RETURN; tick(0) = RETURN; now(10) = 5");
    }

    private static void causes() {
        Check.run("the least cause", "anew(0, 3, 12, 1, 4) = 1; tick(LEFTB+RIGHTA+CLEARB) = LOCKED; now(13) = 1");
        Check.run("right ahead of curtain", "anew(0, 3, 12, 1, 4) = 1; tick(RIGHTA+CLEARB) = LOCKED; now(13) = 2");
        Check.run("curtain ahead of valves", "valve(0, 1) = 2; anew(1, 3, 12, 1, 4) = 1; valve(0, 1) = 2; ticks(CLEARA, 2) = LOCKED; now(13) = 3; now(8) = 2");
        Check.run("valves ahead of muting", "valve(0, 0) = 2; ticks(HANDS+CLEAR, 2) = STROKE; now(8) = 1; tick(HANDS+CLEAR+MUTE2) = LOCKED; now(13) = 4");
        Check.run("muting wrong in the stroke", "tick(HANDS+CLEAR) = STROKE; tick(HANDS+CLEAR+MUTE2) = LOCKED; now(13) = 5; now(9) = 0; now(10) = 2");
        Check.run("muting wrong elsewhere", "tick(CLEAR+MUTE2) = READY; tick(HANDS+CLEAR+MUTE2) = STROKE; tick(HANDS+CLEAR+MUTE2) = LOCKED; now(13) = 5");
        Check.run("muting wrong while it returns", "ticks(HANDS+CLEAR, 4) = RETURN; tick(HANDS+CLEAR+MUTE2) = RETURN");
        Check.run("locked while it returns", "anew(0, 3, 12, 1, 4) = 1; ticks(HANDS+CLEAR, 4) = RETURN; tick(CLEARA) = LOCKED; now(10) = 5; now(11) = 0; locked(3, 4) = 1");
        Check.run("locked out of stopped", "anew(0, 3, 12, 0, 4) = 1; tick(HANDS+CLEAR) = STROKE; tick(CLEAR) = STOPPED; tick(CLEAR+LEFTA) = LOCKED; now(13) = 1; locked(1, 1) = 1");
        Check.run("the first cause stays", "anew(0, 3, 12, 1, 4) = 1; tick(CLEARA) = LOCKED; tick(CLEAR+LEFTA) = LOCKED; now(13) = 3; many(6) = 1");
    }

    private static void reset() {
        String locked = "anew(0, 3, 12, 1, 4) = 1; tick(CLEAR+LEFTA) = LOCKED;";
        Check.run("reset and let go", locked + "tick(CLEAR+RESET) = LOCKED; now(12) = 1; tick(CLEAR) = READY; now(13) = NONE; now(12) = 0");
        Check.run("reset held", locked + "ticks(CLEAR+RESET, 5) = LOCKED; tick(CLEAR) = READY");
        Check.run("no reset", locked + "ticks(CLEAR, 5) = LOCKED");
        Check.run("reset only ahead of the lock", "anew(0, 3, 12, 1, 4) = 1; tick(CLEAR+RESET) = READY; tick(CLEAR+LEFTA) = LOCKED; tick(CLEAR) = LOCKED");
        Check.run("cause 1 at the reset", locked + "tick(CLEAR+RESET) = LOCKED; tick(CLEAR+LEFTA) = LOCKED; tick(CLEAR) = LOCKED");
        Check.run("cause 2 at the reset", locked + "tick(CLEAR+RESET) = LOCKED; tick(CLEAR+RIGHTA) = LOCKED");
        Check.run("hands at the reset", locked + "tick(CLEAR+RESET) = LOCKED; tick(CLEAR+LEFT) = LOCKED; tick(CLEAR) = LOCKED");
        Check.run("barred at the reset", locked + "tick(CLEAR+RESET) = LOCKED; tick(0) = LOCKED; tick(CLEAR) = LOCKED");
        Check.run("muted at the reset", locked + "tick(CLEAR+MUTE1) = LOCKED; tick(MUTE1+MUTE2+RESET) = LOCKED; tick(MUTE1+MUTE2) = READY");
        Check.run("muting wrong at the reset", locked + "tick(CLEAR+MUTE2+RESET) = LOCKED; tick(CLEAR+MUTE2) = READY; now(3) = 4");
        Check.run("cause 4 at the reset", "valve(0, 1) = 2; ticks(CLEAR, 2) = LOCKED; tick(CLEAR+RESET) = LOCKED; tick(CLEAR) = LOCKED; valve(0, 2) = 1; tick(CLEAR+RESET) = LOCKED; tick(CLEAR) = READY");
        Check.run("not at the top", "tick(HANDS+CLEAR) = STROKE; tick(HANDS+CLEAR+MUTE2) = LOCKED; tick(CLEAR+RESET) = LOCKED; tick(CLEAR) = STOPPED; now(10) = 2; now(13) = NONE");
        Check.run("taken at the reset", locked + "tick(CLEAR+RESET) = LOCKED; tick(HANDS+CLEAR) = LOCKED");
    }

    private static void overrun() {
        for (int overrun = 0; overrun <= 3; overrun++) {
            Check.run("overrun " + overrun, "anew(2, 3, 12, " + overrun + ", 9) = 1; ticks(HANDS+CLEAR, 2) = STROKE; now(10) = 2; now(11) = " + overrun
                    + "; ticks(CLEAR, 8) = STOPPED; now(11) = 0; now(10) = " + (2 + overrun));
        }
        Check.run("the brake step by step", "anew(2, 3, 12, 3, 9) = 1; tick(HANDS+CLEAR) = STROKE; tick(CLEAR) = STOPPED; now(11) = 2; now(10) = 2; tick(CLEAR) = STOPPED; now(11) = 1; tick(HANDS+CLEAR) = STROKE; now(11) = 3; now(10) = 4");
    }

    private static void topAndBottom() {
        Check.run("bottom 2", "anew(2, 3, 12, 1, 2) = 1; tick(HANDS+CLEAR) = STROKE; tick(HANDS+CLEAR) = RETURN; tick(HANDS+CLEAR) = RETURN; now(10) = 3; tick(HANDS+CLEAR) = READY; now(10) = 0; many(2) = 1");
        Check.run("stopped above the bottom, over it by the brake", """
                anew(2, 3, 12, 2, 2) = 1; tick(HANDS+CLEAR) = STROKE; tick(CLEAR) = STOPPED; now(10) = 2; tick(CLEAR) = STOPPED; now(10) = 3
                tick(HANDS+CLEAR) = READY; now(10) = 0; now(9) = 1; many(2) = 1; followed(3) = 10
                """);
        Check.run("stopped at the bottom goes on as return", "anew(2, 3, 12, 1, 2) = 1; tick(HANDS+CLEAR) = STROKE; tick(CLEAR) = STOPPED; now(10) = 2; tick(HANDS+CLEAR) = RETURN; now(10) = 3");
        Check.run("stopped and caught at the top", "anew(2, 3, 12, 3, 2) = 1; tick(HANDS+CLEAR) = STROKE; ticks(CLEAR, 2) = STOPPED; now(10) = 3; now(11) = 1; tick(CLEAR) = READY; now(10) = 0; now(11) = 0; many(2) = 1");
        Check.run("locked stays locked at the top", "anew(0, 3, 12, 3, 2) = 1; tick(HANDS+CLEAR) = STROKE; ticks(CLEAR+LEFTA, 3) = LOCKED; now(10) = 0; now(11) = 0; many(2) = 1; now(13) = 1");
        Check.run("a stroke begun below the bottom passes the top", """
                anew(2, 3, 12, 0, 2) = 1; valve(0, 1) = 2; valve(1, 1) = 2
                tick(CLEAR) = READY; valve(0, 2) = 1; valve(1, 2) = 1; tick(CLEAR) = READY; now(10) = 1
                valve(0, 1) = 2; valve(1, 1) = 2; tick(CLEAR) = READY; now(10) = 2; valve(0, 2) = 1; valve(1, 2) = 1
                tick(HANDS+CLEAR) = STROKE; now(10) = 3; tick(HANDS+CLEAR) = STROKE; now(10) = 0; many(2) = 1; now(11) = 0
                tick(HANDS+CLEAR) = STROKE; now(10) = 1; tick(HANDS+CLEAR) = RETURN; now(10) = 2
                """);
        Check.run("at the bottom only a slide that moves", """
                anew(2, 3, 12, 0, 2) = 1; valve(0, 1) = 2; valve(1, 1) = 2; tick(CLEAR) = READY
                valve(0, 2) = 1; valve(1, 2) = 1; tick(CLEAR) = READY; valve(0, 1) = 2; valve(1, 1) = 2; tick(CLEAR) = READY
                valve(0, 0) = 1; valve(1, 2) = 1; now(10) = 2; tick(HANDS+CLEAR) = STROKE; now(10) = 2
                """);
    }

    private static void dangers() {
        Check.run("by the overrun", "tick(HANDS+CLEAR) = STROKE; tick(HANDS) = STOPPED; many(1) = 1; tick(HANDS) = STOPPED; many(1) = 1");
        Check.run("by one channel", "tick(HANDS+CLEAR) = STROKE; tick(HANDS+CLEARA) = STOPPED; many(1) = 1");
        Check.run("none while it stands", "ticks(0, 5) = READY; many(1) = 0");
        Check.run("none below the bottom", "ticks(HANDS+CLEAR, 4) = RETURN; ticks(0, 4) = READY; many(1) = 0");
        Check.run("the last one above it", "ticks(HANDS+CLEAR, 3) = STROKE; now(10) = 3; tick(0) = STOPPED; now(10) = 4; many(1) = 1");
        Check.run("none while muted", "tick(CLEAR+MUTE1) = READY; tick(CLEAR+MUTE1+MUTE2) = READY; ticks(HANDS+MUTE1+MUTE2, 3) = STROKE; many(1) = 0");
        Check.run("as told, not as seen", "stick(4, 1) = 2; stick(5, 1) = 2; ticks(HANDS, 3) = STROKE; many(1) = 3");
        Check.run("seen, but not told", "tick(HANDS+CLEAR) = STROKE; stick(4, 0) = 2; tick(HANDS+CLEAR) = STOPPED; now(10) = 2; many(1) = 0");
        Check.run("in any mode", "valve(0, 1) = 2; valve(1, 1) = 2; ticks(0, 3) = LOCKED; many(1) = 3");
    }
}
