/** Ways for an object to come by, so that there is something that a call could spoil. */
final class Ways {
    static final String NEW = "";
    /** Everything is on its way: a lock noted, HANDS 1, MUTING 2, RESET seen, INPUTS and a VALVE STUCK, three STEPS. */
    static final String BUSY = """
            anew(1, 9, 30, 3, 9) = 1; ticks(CLEAR+LEFTA, 2) = LOCKED; tick(CLEAR+RESET) = LOCKED; tick(CLEAR+MUTE1) = READY
            tick(LEFT+CLEAR+MUTE1+MUTE2+RESET) = READY; now = READY 1 1 2 1 0 0 0 0 0 0 0 1 NONE
            stick(3, 0) = 2; stick(8, 1) = 2; valve(1, 1) = 2; step(HANDS+CLEAR) = 1; step(CLEAR) = 2; step(511) = 3
            """;
    static final int BUSY_STEPS = 3;
    /** LOCKED with the slide still on its overrun, once at POSITION 0 and once at 2, and no SCRIPT. */
    static final String LOCKED = """
            anew(0, 3, 12, 2, 4) = 1; tick(CLEARA) = LOCKED; tick(CLEAR+RESET) = LOCKED; tick(CLEAR) = READY
            ticks(HANDS+CLEAR, 2) = STROKE; tick(HANDS+CLEAR+MUTE2) = LOCKED; now = LOCKED 2 0 4 0 0 0 0 0 0 3 1 0 5
            """;
    /** In its STROKE, and the SCRIPT has all its STEPS. */
    static final String FULL = full() + "ticks(HANDS+CLEAR, 2) = STROKE; now = STROKE 2 0 0 0 0 0 0 0 1 2 1 0 NONE";
    static final int FULL_STEPS = 32;

    private Ways() {
    }

    private static String full() {
        int[] sets = {48, 63, 63, 63, 31, 304, 48, 511};
        StringBuilder text = new StringBuilder();
        for (int k = 0; k < FULL_STEPS; k++) {
            text.append("step(").append(sets[k % sets.length]).append(") = ").append(k + 1).append(';');
        }
        return text.toString();
    }
}
