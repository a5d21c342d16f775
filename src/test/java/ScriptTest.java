/** Promises 14 (step), 15 (wipe) and 16 (stepAt). */
public final class ScriptTest {
    public static void main(String[] args) {
        Check.run("steps", "step(0) = 1; step(511) = 2; step(48) = 3; stepAt(0) = 0; stepAt(1) = 511; stepAt(2) = 48; stepAt(3) = UNKNOWN; many(3) = 3");
        Check.run("wipe", "step(5) = 1; step(6) = 2; wipe() = 2; wipe() = 0; stepAt(0) = UNKNOWN; many(3) = 0; step(7) = 1; stepAt(0) = 7; stepAt(1) = UNKNOWN");
        Check.run("refused", """
                step(9) = 1; step(-1) = OUTSIDE; step(512) = OUTSIDE; step(MIN) = OUTSIDE; step(MAX) = OUTSIDE
                many(3) = 1; stepAt(0) = 9; stepAt(-1) = UNKNOWN; stepAt(1) = UNKNOWN; stepAt(MIN) = UNKNOWN; stepAt(MAX) = UNKNOWN
                """);
        full();
        Check.run("the press stands", "step(HANDS+CLEAR) = 1; many(0) = 0; now = READY 0 0 0 0 0 0 0 0 0 0 0 0 NONE");
        Check.end();
    }

    private static void full() {
        StringBuilder text = new StringBuilder();
        for (int k = 0; k < 32; k++) {
            text.append("step(").append(k * 16).append(") = ").append(k + 1).append(';');
        }
        text.append("step(1) = FULL; step(512) = OUTSIDE; step(-1) = OUTSIDE; many(3) = 32; stepAt(32) = UNKNOWN;");
        for (int k = 0; k < 32; k++) {
            text.append("stepAt(").append(k).append(") = ").append(k * 16).append(';');
        }
        text.append("anew(2, 3, 12, 1, 4) = 1; step(1) = FULL; trials(0) = 576; wipe() = 32; step(1) = 1");
        Check.run("full", text.toString());
    }
}
