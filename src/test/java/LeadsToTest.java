/** Promise 9 (leadsTo). */
public final class LeadsToTest {
    public static void main(String[] args) {
        Check.run("at first", "leadsTo(0) = NONE; leadsTo(1) = 0; leadsTo(2) = HANDS+CLEAR; leadsTo(3) = NONE; leadsTo(4) = NONE");
        Check.run("in the stroke", "tick(HANDS+CLEAR) = STROKE; leadsTo(0) = MUTE2; leadsTo(1) = NONE; leadsTo(2) = HANDS+CLEAR; leadsTo(3) = 0; leadsTo(4) = NONE");
        Check.run("ahead of the bottom", "ticks(HANDS+CLEAR, 3) = STROKE; leadsTo(4) = HANDS+CLEAR; leadsTo(2) = NONE; leadsTo(3) = 0");
        Check.run("ahead of the top", "ticks(HANDS+CLEAR, 7) = RETURN; leadsTo(1) = 0; leadsTo(4) = NONE");
        Check.run("patience 0", "anew(0, 3, 12, 1, 4) = 1; leadsTo(0) = LEFTA");
        Check.run("with a reset seen", "anew(0, 3, 12, 1, 4) = 1; tick(CLEARA) = LOCKED; leadsTo(1) = NONE; tick(RESET) = LOCKED; leadsTo(1) = CLEAR; leadsTo(0) = 0");
        Check.run("with stuck inputs", "stick(4, 1) = 2; stick(5, 1) = 2; leadsTo(2) = HANDS; stick(0, 0) = 2; leadsTo(2) = NONE");
        Check.run("with stuck valves", "valve(0, 1) = 2; valve(1, 1) = 2; tick(CLEAR) = READY; leadsTo(0) = 0; leadsTo(1) = NONE");
        Check.run("changes nothing", """
                tick(HANDS+CLEAR) = STROKE; leadsTo(0) = MUTE2; leadsTo(4) = NONE
                now = STROKE 2 0 0 0 0 0 0 0 1 1 1 0 NONE
                many = 1 0 0 0 0 0 0
                followed = 0 4 0 0 0
                """);
        Check.run("refused", "leadsTo(-1) = OUTSIDE; leadsTo(5) = OUTSIDE; leadsTo(MAX) = OUTSIDE; leadsTo(MIN) = OUTSIDE; leadsTo(NONE) = OUTSIDE");
        Check.end();
    }
}
