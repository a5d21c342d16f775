import java.lang.reflect.Method;
import java.util.ArrayList;
import java.util.List;

/**
 * Plays runs of calls that are written out as text, each on a new PressGuard, and tells every answer that is not due.
 * A line holds calls with what is due, parted by ';'. Behind '#' stands a remark. Beside 'tick(63) = 2' there are
 * 'now = ..' (now(0) .. now(13)), 'many = ..' (many(0) .. many(6)), 'settings = ..' and 'followed = ..', as rows.
 */
final class Check {
    /** Behind so many calls the document promises nothing of an object any more. */
    static final int MOST_CALLS = 512;
    private static int wrong = 0;
    private static int looked = 0;

    private Check() {
    }

    static void due(String what, long got, long want) {
        looked++;
        if (got != want) {
            wrong++;
            System.out.println(what + " answered " + got + ", due is " + want);
        }
    }

    static void due(String what, boolean holds) {
        due(what, holds ? 1 : 0, 1);
    }

    static void run(String title, String text) {
        int calls = play(new PressGuard(), title, text);
        if (calls > MOST_CALLS) {
            due(title + ": calls of one object", calls, MOST_CALLS);
        }
    }

    /** How many calls there were. */
    static int play(PressGuard guard, String title, String text) {
        int count = 0;
        for (String line : text.split("\n")) {
            String calls = line.contains("#") ? line.substring(0, line.indexOf('#')) : line;
            for (String call : calls.split(";")) {
                if (!call.isBlank()) {
                    count += playOne(guard, title, call.strip());
                }
            }
        }
        return count;
    }

    private static int playOne(PressGuard guard, String title, String call) {
        String[] sides = call.split("=");
        String asked = sides[0].strip();
        String[] want = sides[1].strip().split("\\s+");
        if (asked.endsWith(")")) {
            due(title + ": " + asked, answer(guard, asked), value(want[0]));
            return 1;
        }
        String method = asked.equals("settings") ? "setting" : asked;
        for (int k = 0; k < want.length; k++) {
            String single = method + "(" + k + ")";
            due(title + ": " + asked + " as " + single, answer(guard, single), value(want[k]));
        }
        return want.length;
    }

    static int answer(PressGuard guard, String call) {
        String name = call.substring(0, call.indexOf('('));
        String inside = call.substring(call.indexOf('(') + 1, call.lastIndexOf(')')).strip();
        List<Object> values = new ArrayList<>();
        if (!inside.isEmpty()) {
            for (String part : inside.split(",")) {
                values.add(value(part.strip()));
            }
        }
        Class<?>[] types = new Class<?>[values.size()];
        java.util.Arrays.fill(types, int.class);
        try {
            Method method = PressGuard.class.getMethod(name, types);
            return (Integer) method.invoke(guard, values.toArray());
        } catch (ReflectiveOperationException e) {
            throw new IllegalStateException(call, e);
        }
    }

    /** A number, a constant of the class, or a sum of named INPUTS such as LEFT+CLEAR. */
    private static int value(String text) {
        int sum = 0;
        for (String part : text.split("\\+")) {
            sum += word(part.strip());
        }
        return sum;
    }

    private static int word(String text) {
        switch (text) {
            case "UNKNOWN": return PressGuard.UNKNOWN;
            case "OUTSIDE": return PressGuard.OUTSIDE;
            case "FULL": return PressGuard.FULL;
            case "NONE": return PressGuard.NONE;
            case "LEFT": return 3;
            case "LEFTA": return 1;
            case "LEFTB": return 2;
            case "RIGHT": return 12;
            case "RIGHTA": return 4;
            case "RIGHTB": return 8;
            case "HANDS": return 15;
            case "CLEAR": return 48;
            case "CLEARA": return 16;
            case "CLEARB": return 32;
            case "MUTE1": return 64;
            case "MUTE2": return 128;
            case "RESET": return 256;
            case "LOCKED": return 0;
            case "READY": return 1;
            case "STROKE": return 2;
            case "STOPPED": return 3;
            case "RETURN": return 4;
            case "MAX": return Integer.MAX_VALUE;
            case "MIN": return Integer.MIN_VALUE;
            default: return Integer.parseInt(text);
        }
    }

    static void end() {
        System.out.println(looked + " answers looked at, " + wrong + " not as due");
        if (wrong != 0 || looked == 0) {
            System.exit(1);
        }
    }
}
