/** Promises 10 (locked), 11 (cause), 12 (followed), 13 (places) and 20 (many). */
public final class NotesTest {
    private static final String OPEN = "tick(CLEAR+RESET) = LOCKED;";

    public static void main(String[] args) {
        locks();
        order();
        lastPosition();
        followed();
        refusals();
        many();
        Check.end();
    }

    private static void locks() {
        Check.run("locks", "anew(0, 3, 12, 0, 4) = 1; tick(CLEAR+LEFTA) = LOCKED;" + OPEN + "tick(CLEAR) = READY;"
                + "tick(CLEAR+LEFTB) = LOCKED;" + OPEN + "tick(CLEAR) = READY;"
                + "tick(HANDS+CLEAR) = STROKE; tick(CLEAR+LEFTB) = LOCKED; ticks(CLEAR+LEFTB, 3) = LOCKED;" + OPEN + "tick(CLEAR) = STOPPED;"
                + "tick(CLEARA) = LOCKED;"
                + "locked(1, 0) = 2; locked(1, 1) = 1; locked(1, 2) = 0; locked(1, NONE) = 3;"
                + "locked(3, 1) = 1; locked(3, 0) = 0; locked(3, NONE) = 1; locked(2, NONE) = 0; locked(2, 0) = 0;"
                + "places() = 2; many(6) = 4; cause(0) = 1; cause(1) = 3; cause(2) = NONE;"
                + "anew(0, 3, 12, 0, 4) = 1; locked(1, 0) = 0; locked(1, NONE) = 0; places() = 0; many(6) = 0; cause(0) = NONE");
        Check.run("at the position ahead of the move", "anew(0, 3, 12, 3, 4) = 1; tick(HANDS+CLEAR) = STROKE; tick(CLEARA) = LOCKED; now(10) = 2; locked(3, 1) = 1; locked(3, 2) = 0; places() = 1");
    }

    private static void order() {
        Check.run("all five, the last first", "anew(0, 3, 12, 0, 9) = 1; tick(HANDS+CLEAR) = STROKE; tick(HANDS+CLEAR+MUTE2) = LOCKED;" + OPEN + "tick(CLEAR) = STOPPED;"
                + "valve(0, 1) = 2; ticks(CLEAR, 2) = LOCKED; valve(0, 2) = 1;" + OPEN + "tick(CLEAR) = STOPPED;"
                + "tick(CLEARB) = LOCKED;" + OPEN + "tick(CLEAR) = STOPPED; tick(CLEAR+RIGHTA) = LOCKED;" + OPEN + "tick(CLEAR) = STOPPED;"
                + "tick(CLEARB) = LOCKED;" + OPEN + "tick(CLEAR) = STOPPED; tick(CLEAR+LEFTA) = LOCKED;"
                + "cause(0) = 5; cause(1) = 4; cause(2) = 3; cause(3) = 2; cause(4) = 1; many(6) = 6; places() = 1; locked(3, 1) = 2");
    }

    private static void lastPosition() {
        Check.run("position 17", "anew(0, 3, 12, 0, 9) = 1; ticks(HANDS+CLEAR, 17) = RETURN; now(10) = 17; tick(CLEAR+LEFTA) = LOCKED; locked(1, 17) = 1; places() = 1");
    }

    private static void followed() {
        Check.run("followed", """
                tick(CLEAR) = READY; followed = 0 2 0 0 0
                tick(HANDS+CLEAR) = STROKE; followed = 0 6 0 0 0
                tick(HANDS+CLEAR) = STROKE; followed = 0 6 4 0 0
                tick(CLEAR) = STOPPED; followed = 0 6 12 0 0
                tick(HANDS+CLEAR) = RETURN; followed = 0 6 12 16 0
                ticks(CLEAR, 4) = READY; followed = 0 6 12 16 18
                tick(CLEAR) = READY; anew(0, 3, 12, 1, 4) = 1; followed = 0 0 0 0 0
                tick(LEFTA) = LOCKED; followed = 0 1 0 0 0
                tick(RESET) = LOCKED; tick(CLEAR) = READY; followed = 3 1 0 0 0
                """);
    }

    private static void refusals() {
        Check.run("refused", """
                locked(0, 0) = UNKNOWN; locked(6, 0) = UNKNOWN; locked(MIN, 0) = UNKNOWN; locked(MAX, NONE) = UNKNOWN
                locked(0, 18) = UNKNOWN; locked(NONE, NONE) = UNKNOWN                    # UNKNOWN comes first
                locked(1, -1) = OUTSIDE; locked(5, 18) = OUTSIDE; locked(1, MIN) = OUTSIDE; locked(1, MAX) = OUTSIDE; locked(1, -8) = OUTSIDE; locked(1, -10) = OUTSIDE
                locked(5, 17) = 0; locked(5, 0) = 0; locked(1, 17) = 0                    # whatever BOTTOM is
                cause(-1) = OUTSIDE; cause(5) = OUTSIDE; cause(MIN) = OUTSIDE; cause(MAX) = OUTSIDE
                followed(-1) = OUTSIDE; followed(5) = OUTSIDE; followed(MIN) = OUTSIDE; followed(MAX) = OUTSIDE
                many(-1) = OUTSIDE; many(7) = OUTSIDE; many(MIN) = OUTSIDE; many(MAX) = OUTSIDE
                """);
    }

    private static void many() {
        Check.run("many", """
                step(1) = 1; step(2) = 2; stick(8, 0) = 2; stick(7, 1) = 2; stick(6, 1) = 2; valve(0, 2) = 2; valve(1, 1) = 2
                many = 0 0 0 2 3 1 0
                stick(7, 2) = 1; stick(6, 2) = 1; valve(1, 2) = 1; valve(0, 0) = 2; valve(0, 2) = 0
                ticks(HANDS+CLEAR, 10) = READY; many = 10 0 1 2 1 0 0
                tick(CLEAR) = READY; tick(HANDS+CLEAR) = STROKE; ticks(HANDS+CLEARA, 3) = LOCKED
                many = 15 1 1 2 1 0 1
                wipe() = 2; many(3) = 0
                """);
    }
}
