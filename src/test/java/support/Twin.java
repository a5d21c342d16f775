import java.util.ArrayList;
import java.util.List;
import java.util.Map;

/**
 * Shows that a call changes nothing: of two objects that came the same way one is asked it and the other is not, and
 * then both answer alike whatever can be asked of them, and go on alike.
 */
final class Twin {
    private static final int[] GOES_ON = {48, 63, 191, 304, 48, 63, 31};

    private Twin() {
    }

    /** The calls are due to answer so, and to change nothing. */
    static void unchanged(String title, String way, Map<String, Integer> calls) {
        PressGuard asked = new PressGuard();
        PressGuard other = new PressGuard();
        int count = Check.play(asked, title, way);
        Check.play(other, title, way);
        calls.forEach((call, due) -> Check.due(title + ": " + call, Check.answer(asked, call), due));
        List<String> got = allOf(asked);
        List<String> want = allOf(other);
        Check.due(title + ": so few calls", count + calls.size() + got.size() <= Check.MOST_CALLS);
        for (int k = 0; k < want.size(); k++) {
            if (!want.get(k).equals(got.get(k))) {
                Check.due(title + ": one of " + calls.keySet() + " changed " + want.get(k) + " to " + got.get(k), false);
                return;
            }
        }
        Check.due(title + ": nothing is changed", got.size() == want.size());
    }

    private static List<String> allOf(PressGuard guard) {
        List<String> answers = new ArrayList<>();
        askAll(guard, answers);
        for (int set : GOES_ON) {
            ask(guard, answers, "tick(" + set + ")");
            row(guard, answers, "now", 0, 13);
        }
        row(guard, answers, "many", 0, 6);
        // What is STUCK is told only by what loosens it, so this comes last.
        for (int input = 0; input < 9; input++) {
            ask(guard, answers, "stick(" + input + ", 2)");
        }
        ask(guard, answers, "valve(0, 2)");
        ask(guard, answers, "valve(1, 2)");
        ask(guard, answers, "step(48)");
        ask(guard, answers, "wipe()");
        return answers;
    }

    private static void askAll(PressGuard guard, List<String> answers) {
        row(guard, answers, "now", 0, 13);
        row(guard, answers, "setting", 0, 4);
        row(guard, answers, "leadsTo", 0, 4);
        row(guard, answers, "cause", 0, 4);
        row(guard, answers, "followed", 0, 4);
        row(guard, answers, "stepAt", 0, 32);
        row(guard, answers, "trials", 0, 5);
        row(guard, answers, "many", 0, 6);
        ask(guard, answers, "places()");
        for (int cause = 1; cause <= 5; cause++) {
            ask(guard, answers, "locked(" + cause + ", NONE)");
            for (int position = 0; position < 18; position++) {
                ask(guard, answers, "locked(" + cause + ", " + position + ")");
            }
        }
        for (int what = 0; what <= 4; what++) {
            ask(guard, answers, "trial(4, 0, 0, " + what + ")");
        }
        for (int what : new int[] {0, 1, 10, 11, 12, 13, 14}) {
            ask(guard, answers, "reach(63, 48, 3, " + what + ")");
        }
    }

    private static void row(PressGuard guard, List<String> answers, String method, int least, int most) {
        for (int k = least; k <= most; k++) {
            ask(guard, answers, method + "(" + k + ")");
        }
    }

    private static void ask(PressGuard guard, List<String> answers, String call) {
        answers.add(call + " = " + Check.answer(guard, call));
    }
}
