/** Boundary cases of ==== 1 and of the promises 1, 2, 3, 4 and 8; each title has the document's words. */
public final class SettingsEdgesTest {
    private static final String[] NAMES = {"PATIENCE (0 .. 5; 2 at first)", "SPAN (1 .. 9; 3)", "LIMIT (1 .. 30; 12)",
        "OVERRUN (0 .. 3; 1)", "BOTTOM (2 .. 9; 4)"};
    private static final int[] FIRST = {2, 3, 12, 1, 4}, LEAST = {0, 1, 1, 0, 2}, MOST = {5, 9, 30, 3, 9};
    private static final String AT_FIRST = "now = READY 0 0 0 0 0 0 0 0 0 0 0 0 NONE;";
    private static final String NONE_STUCK = "stick(0, 2) = 2; stick(1, 2) = 2; stick(2, 2) = 2; stick(3, 2) = 2; stick(4, 2) = 2;"
            + "stick(5, 2) = 2; stick(6, 2) = 2; stick(7, 2) = 2; stick(8, 2) = 2; valve(0, 2) = 2; valve(1, 2) = 2;";

    public static void main(String[] args) {
        settingsAtFirst();
        eachSettingTaken();
        eachSettingRefused();
        oneWrongAmongRightOnes();
        atFirst();
        nothingStuckAtFirst();
        nothingNotedAtFirst();
        scriptStays();
        sameSettingsAgain();
        stuckOverAndOver();
        allStuck();
        stuckAsItIsToldAnyway();
        valveAsTheCommandTells();
        Check.end();
    }

    private static String anew(int k, int v) {
        StringBuilder text = new StringBuilder("anew(");
        for (int one = 0; one < 5; one++) {
            text.append(one == k ? v : FIRST[one]).append(one < 4 ? ", " : ")");
        }
        return text.toString();
    }

    private static String settings(int k, int v) {
        StringBuilder text = new StringBuilder("settings =");
        for (int one = 0; one < 5; one++) {
            text.append(' ').append(one == k ? v : FIRST[one]);
        }
        return text.append(';').toString();
    }

    private static void settingsAtFirst() {
        Check.run("SETTINGS as at first", settings(0, 2) + "setting(-1) = OUTSIDE; setting(5) = OUTSIDE");
    }

    private static void eachSettingTaken() {
        for (int k = 0; k < 5; k++) {
            for (int v = LEAST[k]; v <= MOST[k]; v++) {
                Check.run(NAMES[k] + ": " + v, anew(k, v) + " = 1;" + settings(k, v) + AT_FIRST);
            }
        }
        Check.run("all at their least", "anew(0, 1, 1, 0, 2) = 1; settings = 0 1 1 0 2");
        Check.run("all at their most", "anew(5, 9, 30, 3, 9) = 1; settings = 5 9 30 3 9");
    }

    private static void eachSettingRefused() {
        for (int k = 0; k < 5; k++) {
            int[] wrong = {LEAST[k] - 1, MOST[k] + 1, -MOST[k] - 1, 256 + LEAST[k], Integer.MIN_VALUE, Integer.MAX_VALUE};
            for (int v : wrong) {
                Check.run(NAMES[k] + ": not " + v, anew(k, v) + " = OUTSIDE;" + settings(0, FIRST[0]));
            }
        }
    }

    private static void oneWrongAmongRightOnes() {
        String stands = "settings = 4 5 6 3 7; many(0) = 1; now(5) = 1;";
        String start = "anew(4, 5, 6, 3, 7) = 1; tick(CLEAR+LEFTB) = READY;";
        Check.run("the last one wrong", start + "anew(0, 1, 1, 0, 1) = OUTSIDE; anew(5, 9, 30, 3, 10) = OUTSIDE;" + stands);
        Check.run("the first one wrong", start + "anew(-1, 1, 1, 0, 2) = OUTSIDE; anew(6, 9, 30, 3, 9) = OUTSIDE;" + stands);
        Check.run("all of them wrong", start + "anew(-1, 0, 0, -1, 1) = OUTSIDE; anew(6, 10, 31, 4, 10) = OUTSIDE;" + stands);
    }

    private static void atFirst() {
        Check.run("At first: a new object", AT_FIRST + "many = 0 0 0 0 0 0 0");
        Check.run("At first: anew ahead of all", "anew(2, 3, 12, 1, 4) = 1;" + AT_FIRST + "many = 0 0 0 0 0 0 0");
        Check.run("At first: anew behind all that can be", Ways.BUSY + "anew(2, 3, 12, 1, 4) = 1;" + AT_FIRST + "many = 0 0 0 3 0 0 0");
        Check.run("At first: anew while LOCKED", Ways.LOCKED + "anew(2, 3, 12, 1, 4) = 1;" + AT_FIRST + "tick(CLEAR) = READY;" + AT_FIRST);
        Check.run("At first: anew with counts at their most", "valve(0, 1) = 2; ticks(LEFTA+RIGHTB+CLEARA+RESET, 60) = LOCKED; now(5) = 9; now(6) = 9; now(7) = 9; now(8) = 9;"
                + "anew(0, 1, 1, 0, 2) = 1;" + AT_FIRST + "tick(CLEAR) = READY; now(8) = 0");
        Check.run("RESET was not SEEN", "anew(0, 3, 12, 1, 4) = 1; tick(CLEAR+RESET) = READY; now(12) = 1; anew(0, 3, 12, 1, 4) = 1; now(12) = 0;"
                + "tick(CLEAR+LEFTA) = LOCKED; tick(CLEAR) = LOCKED");
        Check.run("BRAKE 0", "anew(2, 3, 12, 3, 9) = 1; tick(HANDS+CLEAR) = STROKE; now(11) = 3; anew(2, 3, 12, 3, 9) = 1; tick(CLEAR) = READY; now(10) = 0");
        Check.run("COMMAND closed", "tick(HANDS+CLEAR) = STROKE; anew(2, 3, 12, 1, 4) = 1; now(9) = 0; valve(0, 0) = 2; valve(1, 0) = 2; tick(CLEAR) = READY; now(8) = 0");
    }

    private static void nothingStuckAtFirst() {
        Check.run("nothing STUCK: a new object", NONE_STUCK);
        StringBuilder text = new StringBuilder();
        for (int input = 0; input < 9; input++) {
            text.append("stick(").append(input).append(", ").append(input % 2).append(") = 2;");
        }
        text.append("valve(0, 0) = 2; valve(1, 1) = 2; many(4) = 9; many(5) = 2;");
        Check.run("nothing STUCK: anew", text + "anew(2, 3, 12, 1, 4) = 1; many(4) = 0; many(5) = 0;" + NONE_STUCK);
        Check.run("STUCK stays, if anew is refused", text + "anew(2, 3, 12, 1, 1) = OUTSIDE; many(4) = 9; many(5) = 2; stick(0, 2) = 0; stick(1, 2) = 1; stick(8, 2) = 0; valve(0, 2) = 0; valve(1, 2) = 1");
    }

    private static void nothingNotedAtFirst() {
        StringBuilder text = new StringBuilder("followed = 0 0 0 0 0; places() = 0; many(6) = 0;");
        for (int k = 0; k < 5; k++) {
            text.append("cause(").append(k).append(") = NONE;locked(").append(k + 1).append(", NONE) = 0;");
            for (int position = 0; position < 18; position++) {
                text.append("locked(").append(k + 1).append(", ").append(position).append(") = 0;");
            }
        }
        Check.run("nothing NOTED: a new object", text.toString());
        Check.run("nothing NOTED: anew", Ways.LOCKED + "places() = 2; anew(2, 3, 12, 1, 4) = 1;" + text);
        Check.run("NOTED stays, if anew is refused", Ways.LOCKED + "anew(2, 3, 12, 1, 10) = OUTSIDE; places() = 2; cause(0) = 3; cause(1) = 5; locked(3, 0) = 1; locked(5, 2) = 1; many(6) = 2");
    }

    private static void scriptStays() {
        Check.run("no SCRIPT", "many(3) = 0; stepAt(0) = UNKNOWN; trials(0) = 0; wipe() = 0");
        Check.run("the SCRIPT stays, a full one too", Ways.FULL + "; anew(0, 1, 1, 0, 2) = 1; many(3) = 32; stepAt(0) = 48; stepAt(31) = 511; step(0) = FULL; wipe() = 32");
        Check.run("the SCRIPT stays, one with no STEPS too", "anew(0, 1, 1, 0, 2) = 1; many(3) = 0; step(7) = 1; anew(0, 1, 1, 0, 2) = 1; stepAt(0) = 7; stepAt(1) = UNKNOWN");
    }

    private static void sameSettingsAgain() {
        Check.run("anew with the same SETTINGS is a press as at first, too", "tick(HANDS+CLEAR) = STROKE; anew(2, 3, 12, 1, 4) = 1; anew(2, 3, 12, 1, 4) = 1;" + AT_FIRST + "many(0) = 0");
    }

    private static void stuckOverAndOver() {
        for (int input = 0; input < 9; input++) {
            StringBuilder text = new StringBuilder();
            int was = 2;
            for (int v : new int[] {2, 0, 0, 1, 1, 0, 2, 1, 2, 2}) {
                text.append("stick(%d, %d) = %d; many(4) = %d;".formatted(input, v, was, v == 2 ? 0 : 1));
                was = v;
            }
            Check.run("at which it was (2: it was not): INPUT " + input, text.toString());
        }
        for (int k = 0; k < 2; k++) {
            StringBuilder text = new StringBuilder();
            int was = 2;
            for (int v : new int[] {2, 0, 0, 1, 1, 0, 2, 1, 2, 2}) {
                text.append("valve(%d, %d) = %d; many(5) = %d;".formatted(k, v, was, v == 2 ? 0 : 1));
                was = v;
            }
            Check.run("how it was: VALVE " + k, text.toString() + "valve(" + (1 - k) + ", 2) = 2");
        }
    }

    private static void allStuck() {
        StringBuilder on = new StringBuilder();
        StringBuilder off = new StringBuilder();
        for (int input = 0; input < 9; input++) {
            on.append("stick(").append(input).append(", 1) = 2;");
            off.append("stick(").append(input).append(", 0) = 2;");
        }
        // All 1: hands at once with the curtain clear, but both mutes out of order.
        Check.run("SEEN, all at 1, whatever is told", on + "many(4) = 9; tick(0) = STROKE; now = STROKE 2 0 4 0 0 0 0 0 1 1 1 1 NONE; tick(511) = LOCKED; now(13) = 5");
        Check.run("SEEN, all at 0, whatever is told", off + "many(4) = 9; ticks(511, 60) = READY; now = READY 0 0 0 0 0 0 0 0 0 0 0 0 NONE");
    }

    private static void stuckAsItIsToldAnyway() {
        Check.run("STUCK as it is told anyway", "stick(0, 1) = 2; stick(4, 1) = 2; stick(8, 0) = 2; ticks(HANDS+CLEAR, 4) = RETURN; now = RETURN 2 0 0 0 0 0 0 0 1 4 1 0 NONE; many(1) = 0");
    }

    private static void valveAsTheCommandTells() {
        Check.run("else a VALVE is as the COMMAND tells", "valve(0, 1) = 2; tick(HANDS+CLEAR) = STROKE; now(10) = 1; valve(0, 2) = 1; ticks(HANDS+CLEAR, 60) = READY; now(8) = 0; now(10) = 0; many(2) = 1");
        Check.run("STUCK open alone opens nothing", "anew(2, 3, 12, 3, 4) = 1; valve(0, 1) = 2; tick(CLEAR) = READY; now(10) = 0; now(11) = 0");
        Check.run("STUCK closed alone keeps the SLIDE where it is", "valve(1, 0) = 2; tick(HANDS+CLEAR) = STROKE; now(10) = 0; now(11) = 0; now(9) = 1");
    }
}
