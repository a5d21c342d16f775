/** Promises 3 (stick) and 4 (valve). */
public final class FaultsTest {
    public static void main(String[] args) {
        stickTellsHowItWas();
        stuckInputsAreSeen();
        stickRefusals();
        valveTellsHowItWas();
        stuckValvesMoveTheSlide();
        valveRefusals();
        Check.end();
    }

    private static void stickTellsHowItWas() {
        for (int input = 0; input < 9; input++) {
            Check.run("stick " + input, """
                    stick(%1$d, 0) = 2; many(4) = 1; stick(%1$d, 1) = 0; many(4) = 1; stick(%1$d, 1) = 1
                    stick(%1$d, 0) = 1; stick(%1$d, 2) = 0; many(4) = 0; stick(%1$d, 2) = 2
                    """.formatted(input));
        }
        Check.run("stick each by itself", """
                stick(0, 1) = 2; stick(1, 0) = 2; stick(8, 1) = 2; many(4) = 3
                stick(0, 2) = 1; many(4) = 2; stick(1, 2) = 0; stick(8, 2) = 1; many(4) = 0
                """);
    }

    private static void stuckInputsAreSeen() {
        Check.run("left a at 1", "stick(0, 1) = 2; tick(CLEAR) = READY; now(5) = 1; tick(CLEAR+LEFTB) = READY; now(5) = 0; now(1) = 1");
        Check.run("left b at 0", "stick(1, 0) = 2; tick(CLEAR+LEFT) = READY; now(5) = 1; now(1) = 0");
        Check.run("right a at 1", "stick(2, 1) = 2; tick(CLEAR) = READY; now(6) = 1");
        Check.run("right b at 0", "stick(3, 0) = 2; tick(CLEAR+RIGHT) = READY; now(6) = 1");
        Check.run("curtain a at 0", "stick(4, 0) = 2; tick(CLEAR+HANDS) = READY; now(7) = 1");
        Check.run("curtain b at 1", "stick(5, 1) = 2; tick(HANDS+CLEARA) = STROKE; now(7) = 0; many(1) = 1");
        Check.run("mute 1 at 1", "stick(6, 1) = 2; tick(CLEAR) = READY; now(3) = 1; stick(6, 2) = 1; tick(CLEAR) = READY; now(3) = 0");
        Check.run("mute 2 at 0", "stick(7, 0) = 2; tick(CLEAR+MUTE2) = READY; now(3) = 0");
        Check.run("reset at 1", "stick(8, 1) = 2; tick(CLEAR) = READY; now(12) = 1; stick(8, 0) = 1; tick(CLEAR+RESET) = READY; now(12) = 0");
    }

    private static void stickRefusals() {
        Check.run("stick refusals", """
                stick(3, 1) = 2
                stick(9, 0) = UNKNOWN; stick(-1, 0) = UNKNOWN; stick(MAX, 1) = UNKNOWN; stick(MIN, 1) = UNKNOWN
                stick(9, 3) = UNKNOWN; stick(-1, -1) = UNKNOWN      # UNKNOWN comes first
                stick(3, 3) = OUTSIDE; stick(3, -1) = OUTSIDE; stick(0, MAX) = OUTSIDE; stick(3, MIN) = OUTSIDE
                many(4) = 1; stick(3, 2) = 1
                """);
    }

    private static void valveTellsHowItWas() {
        for (int k = 0; k < 2; k++) {
            Check.run("valve " + k, """
                    valve(%1$d, 0) = 2; many(5) = 1; valve(%1$d, 1) = 0; valve(%1$d, 1) = 1
                    valve(%1$d, 0) = 1; valve(%1$d, 2) = 0; many(5) = 0; valve(%1$d, 2) = 2
                    """.formatted(k));
        }
        Check.run("both valves", "valve(0, 1) = 2; valve(1, 0) = 2; many(5) = 2; valve(0, 2) = 1; many(5) = 1; valve(1, 2) = 0");
    }

    private static void stuckValvesMoveTheSlide() {
        Check.run("one closed: the slide stays, and it locks", """
                valve(1, 0) = 2; tick(CLEAR) = READY; now(8) = 0
                tick(HANDS+CLEAR) = STROKE; now(8) = 0; now(9) = 1; now(10) = 0; now(11) = 0
                tick(HANDS+CLEAR) = STROKE; now(8) = 1
                tick(HANDS+CLEAR) = LOCKED; now(8) = 2; now(13) = 4; now(9) = 0; now(10) = 0
                tick(HANDS+CLEAR) = LOCKED; now(8) = 0
                """);
        Check.run("one open: the slide stays", "valve(0, 1) = 2; ticks(CLEAR, 1) = READY; now(10) = 0; now(8) = 1; tick(CLEAR) = LOCKED; now(13) = 4; now(10) = 0");
        Check.run("both open: it goes by itself", """
                valve(0, 1) = 2; valve(1, 1) = 2
                tick(CLEAR) = READY; now = READY 0 0 0 0 0 0 0 1 0 1 1 0 NONE
                tick(CLEAR) = LOCKED; now = LOCKED 0 0 0 0 0 0 0 2 0 2 1 0 4
                locked(4, 1) = 1
                ticks(CLEAR, 20) = LOCKED; now(8) = 9
                """);
        Check.run("open while told so", "valve(0, 1) = 2; valve(1, 1) = 2; tick(HANDS+CLEAR) = STROKE; now(8) = 1; tick(HANDS+CLEAR) = STROKE; now(8) = 0");
    }

    private static void valveRefusals() {
        Check.run("valve refusals", """
                valve(1, 0) = 2
                valve(2, 0) = UNKNOWN; valve(-1, 0) = UNKNOWN; valve(MAX, 1) = UNKNOWN; valve(MIN, 1) = UNKNOWN
                valve(2, 3) = UNKNOWN                               # UNKNOWN comes first
                valve(1, 3) = OUTSIDE; valve(0, -1) = OUTSIDE; valve(0, MIN) = OUTSIDE; valve(1, MAX) = OUTSIDE
                many(5) = 1; valve(1, 2) = 0; valve(0, 2) = 2
                """);
    }
}
