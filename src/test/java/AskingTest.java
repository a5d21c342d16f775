import java.util.LinkedHashMap;
import java.util.Map;

/** Calls that only ask, with every number at its least and at its most, change nothing, whatever way the object came. */
public final class AskingTest {
    private static final String[] ASKED = {
        "ticks(0, 0)", "ticks(511, 0)", "now(0)", "now(13)", "setting(0)", "setting(4)", "leadsTo(0)", "leadsTo(1)", "leadsTo(2)",
        "leadsTo(3)", "leadsTo(4)", "locked(1, 0)", "locked(1, NONE)", "locked(5, 17)", "locked(5, NONE)", "cause(0)", "cause(4)",
        "followed(0)", "followed(4)", "places()", "stepAt(0)", "stepAt(31)", "trial(0, 0, 0, 0)", "trial(0, 1, 0, 4)",
        "trial(8, 0, 0, 3)", "trial(8, 1, 0, 1)", "trials(0)", "trials(1)", "trials(2)", "trials(3)", "trials(4)", "trials(5)",
        "reach(0, 0, 0, 0)", "reach(511, 384, 5, 14)", "reach(63, 48, 5, 1)", "reach(48, 3, 5, 0)", "reach(63, 192, 5, 10)",
        "many(0)", "many(6)"};

    public static void main(String[] args) {
        String[] ways = {Ways.NEW, Ways.BUSY, Ways.LOCKED, Ways.FULL};
        for (int k = 0; k < ways.length; k++) {
            String title = "asking, way " + k;
            each(title, ways[k]);
            together(title, ways[k]);
        }
        Check.end();
    }

    private static void each(String title, String way) {
        for (String call : ASKED) {
            Twin.unchanged(title, way, Map.of(call, due(title, way, call)));
        }
    }

    /** All of them on one object, forth and back: each answers as it did alone. */
    private static void together(String title, String way) {
        Map<String, Integer> forth = new LinkedHashMap<>();
        Map<String, Integer> back = new LinkedHashMap<>();
        for (int k = 0; k < ASKED.length; k++) {
            forth.put(ASKED[k], due(title, way, ASKED[k]));
            String call = ASKED[ASKED.length - 1 - k];
            back.put(call, due(title, way, call));
        }
        Twin.unchanged(title, way, forth);
        Twin.unchanged(title, way, back);
    }

    private static int due(String title, String way, String call) {
        PressGuard alone = new PressGuard();
        Check.play(alone, title, way);
        return Check.answer(alone, call);
    }
}
