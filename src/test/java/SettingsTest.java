/** Promises 1 (a new object), 2 (anew) and 8 (setting). */
public final class SettingsTest {
    private static final String AT_FIRST = """
            now = READY 0 0 0 0 0 0 0 0 0 0 0 0 NONE
            """;
    private static final String NOTHING_NOTED = """
            followed = 0 0 0 0 0
            cause(0) = NONE; cause(4) = NONE; places() = 0
            locked(1, NONE) = 0; locked(2, NONE) = 0; locked(3, NONE) = 0; locked(4, NONE) = 0; locked(5, NONE) = 0
            """;

    public static void main(String[] args) {
        newObject();
        edgesOfAnew();
        anewForgets();
        refusedAnewChangesNothing();
        settingRefusals();
        Check.end();
    }

    private static void newObject() {
        Check.run("new", "settings = 2 3 12 1 4\n many = 0 0 0 0 0 0 0\n wipe() = 0; stepAt(0) = UNKNOWN\n"
                + AT_FIRST + NOTHING_NOTED);
        for (int input = 0; input < 9; input++) {
            Check.run("new, input " + input, "stick(" + input + ", 2) = 2");
        }
        Check.run("new, valves", "valve(0, 2) = 2; valve(1, 2) = 2");
    }

    private static void edgesOfAnew() {
        Check.run("least", "anew(0, 1, 1, 0, 2) = 1\n settings = 0 1 1 0 2\n" + AT_FIRST);
        Check.run("most", "anew(5, 9, 30, 3, 9) = 1\n settings = 5 9 30 3 9\n" + AT_FIRST);
        String[] refused = {"-1, 3, 12, 1, 4", "6, 3, 12, 1, 4", "2, 0, 12, 1, 4", "2, 10, 12, 1, 4",
            "2, 3, 0, 1, 4", "2, 3, 31, 1, 4", "2, 3, 12, -1, 4", "2, 3, 12, 4, 4", "2, 3, 12, 1, 1",
            "2, 3, 12, 1, 10", "MIN, 3, 12, 1, 4", "2, MAX, 12, 1, 4", "2, 3, MIN, 1, 4", "2, 3, 12, MAX, 4",
            "2, 3, 12, 1, MIN"};
        for (String numbers : refused) {
            Check.run("refused", "anew(5, 4, 3, 2, 6) = 1; anew(" + numbers + ") = OUTSIDE\n settings = 5 4 3 2 6");
        }
    }

    private static void anewForgets() {
        Check.run("anew forgets", """
                step(63) = 1; step(48) = 2
                stick(0, 1) = 2; stick(4, 0) = 2; valve(1, 0) = 2
                ticks(HANDS+CLEAR+MUTE1+RESET, 8) = LOCKED
                many = 8 0 0 2 2 1 1
                anew(3, 4, 5, 2, 6) = 1
                settings = 3 4 5 2 6
                many = 0 0 0 2 0 0 0
                stepAt(0) = 63; stepAt(1) = 48; stepAt(2) = UNKNOWN
                stick(0, 2) = 2; stick(4, 2) = 2; valve(1, 2) = 2
                """ + AT_FIRST + NOTHING_NOTED);
        Check.run("anew with everything on its way", """
                anew(5, 9, 30, 3, 9) = 1; tick(CLEAR+MUTE1) = READY; tick(LEFT+CLEAR+MUTE1+MUTE2+RESET) = READY
                now(2) = 1; now(4) = 1; valve(0, 1) = 2; valve(1, 1) = 2; tick(LEFT+RIGHTA+CLEARB+MUTE1+MUTE2+RESET) = READY
                now = READY 1 2 2 2 0 1 1 1 0 1 3 1 NONE
                anew(5, 9, 30, 3, 9) = 1
                """ + AT_FIRST + NOTHING_NOTED);
        Check.run("anew while its command is open", """
                tick(HANDS+CLEAR) = STROKE; now(9) = 1; anew(2, 3, 12, 1, 4) = 1; valve(0, 0) = 2; tick(0) = READY; now(8) = 0; now(9) = 0
                """);
        Check.run("anew in mid stroke", """
                tick(HANDS+CLEAR) = STROKE; tick(LEFT+RIGHTA+MUTE1+RESET) = STOPPED
                anew(2, 3, 12, 1, 4) = 1
                many = 0 0 0 0 0 0 0
                """ + AT_FIRST + NOTHING_NOTED);
    }

    private static void refusedAnewChangesNothing() {
        Check.run("refused anew", """
                stick(8, 1) = 2; valve(0, 1) = 2; step(5) = 1
                tick(HANDS+CLEAR) = STROKE
                anew(6, 3, 12, 1, 4) = OUTSIDE
                now = STROKE 2 0 0 0 0 0 0 1 1 1 1 1 NONE
                many = 1 0 0 1 1 1 0
                followed = 0 4 0 0 0
                """);
    }

    private static void settingRefusals() {
        Check.run("setting", """
                setting(-1) = OUTSIDE; setting(5) = OUTSIDE; setting(MIN) = OUTSIDE; setting(MAX) = OUTSIDE
                settings = 2 3 12 1 4
                """);
    }
}
