import java.util.Random;

/** All promises: long runs of calls, drawn from a fixed seed, answered by PressGuard and by PlainModel alike. */
public final class ModelTest {
    private static final int RUNS = 6000;
    /** With the looks behind each, and the last look at all, these come to less than 512 calls of one object. */
    private static final int CALLS = 105;
    private static final int LOOKS = 3;
    private static final int[] USUAL = {48, 63, 63, 63, 51, 60, 15, 0, 31, 47, 127, 255, 191, 112, 240, 176, 207, 143,
        304, 304, 48, 49, 52, 319};

    private final Random random;
    private final PressGuard guard = new PressGuard();
    private final PlainModel model = new PlainModel();
    private final StringBuilder told = new StringBuilder();

    private ModelTest(long seed) {
        random = new Random(seed);
    }

    public static void main(String[] args) {
        for (int run = 0; run < RUNS; run++) {
            if (!new ModelTest(run).holds()) {
                Check.due("run " + run, 0, 1);
                break;
            }
            Check.due("run " + run, 1, 1);
        }
        Check.end();
    }

    private boolean holds() {
        for (int call = 0; call < CALLS; call++) {
            boolean same = random.nextInt(100) < 75 ? changing() : asking();
            for (int look = 0; look < LOOKS && same; look++) {
                same = looking();
            }
            if (!same) {
                System.out.println(told);
                return false;
            }
        }
        if (!sameAll()) {
            System.out.println(told);
            return false;
        }
        return true;
    }

    private boolean looking() {
        int draw = random.nextInt(100);
        if (draw < 50) {
            int what = near(0, 13);
            return same("now(" + what + ")", guard.now(what), model.now(what));
        }
        if (draw < 70) {
            int what = near(0, 6);
            return same("many(" + what + ")", guard.many(what), model.many(what));
        }
        if (draw < 80) {
            int mode = near(0, 4);
            return same("followed(" + mode + ")", guard.followed(mode), model.followed(mode));
        }
        if (draw < 85) {
            int k = near(0, 4);
            return same("cause(" + k + ")", guard.cause(k), model.cause(k));
        }
        if (draw < 95) {
            int cause = near(1, 5);
            int position = random.nextBoolean() ? -9 : near(0, 17);
            return same("locked(" + cause + ", " + position + ")", guard.locked(cause, position), model.locked(cause, position));
        }
        return same("places()", guard.places(), model.places());
    }

    private boolean same(String call, int got, int want) {
        told.append(call).append(" = ").append(want);
        if (got != want) {
            told.append("; but answered ").append(got);
        }
        told.append('\n');
        return got == want;
    }

    private int set() {
        int draw = random.nextInt(40);
        if (draw == 0) {
            return random.nextInt(20) < 10 ? -1 - random.nextInt(3) : 512 + random.nextInt(3);
        }
        if (draw < 6) {
            return random.nextInt(512);
        }
        int usual = USUAL[random.nextInt(USUAL.length)];
        return draw < 12 ? usual ^ 1 << random.nextInt(9) : usual;
    }

    private int near(int least, int most) {
        return random.nextInt(30) == 0 ? (random.nextBoolean() ? least - 1 : most + 1) : least + random.nextInt(most - least + 1);
    }

    private boolean changing() {
        int draw = random.nextInt(100);
        int set = set();
        if (draw < 50) {
            return same("tick(" + set + ")", guard.tick(set), model.tick(set));
        }
        if (draw < 72) {
            int n = random.nextInt(12) == 0 ? near(0, 60) : near(0, 8);
            return same("ticks(" + set + ", " + n + ")", guard.ticks(set, n), model.ticks(set, n));
        }
        if (draw < 80) {
            int input = near(0, 8);
            int v = random.nextInt(3) > 0 ? 2 : near(0, 2);
            return same("stick(" + input + ", " + v + ")", guard.stick(input, v), model.stick(input, v));
        }
        if (draw < 86) {
            int k = near(0, 1);
            int v = random.nextInt(3) > 0 ? 2 : near(0, 2);
            return same("valve(" + k + ", " + v + ")", guard.valve(k, v), model.valve(k, v));
        }
        if (draw < 97) {
            return same("step(" + set + ")", guard.step(set), model.step(set));
        }
        if (draw < 98) {
            return same("wipe()", guard.wipe(), model.wipe());
        }
        int a = near(0, 5), b = near(1, 9), c = random.nextInt(3) == 0 ? near(1, 30) : near(1, 5), d = near(0, 3), e = near(2, 9);
        return same("anew(" + a + ", " + b + ", " + c + ", " + d + ", " + e + ")", guard.anew(a, b, c, d, e), model.anew(a, b, c, d, e));
    }

    private boolean asking() {
        int draw = random.nextInt(100);
        if (draw < 25) {
            int mode = near(0, 4);
            return same("leadsTo(" + mode + ")", guard.leadsTo(mode), model.leadsTo(mode));
        }
        if (draw < 50) {
            int input = near(0, 8), v = near(0, 1), from = near(0, model.many(3)), what = near(0, 4);
            return same("trial(" + input + ", " + v + ", " + from + ", " + what + ")",
                    guard.trial(input, v, from, what), model.trial(input, v, from, what));
        }
        if (draw < 60) {
            int what = near(0, 5);
            return same("trials(" + what + ")", guard.trials(what), model.trials(what));
        }
        if (draw < 90) {
            int may = random.nextInt(30) == 0 ? random.nextInt(520) - 4 : 1 << random.nextInt(9) | 1 << random.nextInt(9);
            int set = set(), n = near(0, 5), what = random.nextInt(3) == 0 ? near(0, 1) : near(10, 14);
            return same("reach(" + set + ", " + may + ", " + n + ", " + what + ")",
                    guard.reach(set, may, n, what), model.reach(set, may, n, what));
        }
        int k = near(0, 31);
        return same("stepAt(" + k + ")", guard.stepAt(k), model.stepAt(k));
    }

    private boolean sameAll() {
        boolean same = true;
        for (int what = -1; what <= 14 && same; what++) {
            same = guard.now(what) == model.now(what) || same("now(" + what + ")", guard.now(what), model.now(what));
        }
        for (int what = -1; what <= 7 && same; what++) {
            same = guard.many(what) == model.many(what) || same("many(" + what + ")", guard.many(what), model.many(what));
            same &= guard.setting(what) == model.setting(what) || same("setting(" + what + ")", guard.setting(what), model.setting(what));
            same &= guard.followed(what) == model.followed(what) || same("followed(" + what + ")", guard.followed(what), model.followed(what));
            same &= guard.cause(what) == model.cause(what) || same("cause(" + what + ")", guard.cause(what), model.cause(what));
        }
        for (int cause = 0; cause <= 6 && same; cause++) {
            int position = random.nextInt(21) - 1;
            same = guard.locked(cause, position) == model.locked(cause, position)
                    || same("locked(" + cause + ", " + position + ")", guard.locked(cause, position), model.locked(cause, position));
            same &= guard.locked(cause, -9) == model.locked(cause, -9)
                    || same("locked(" + cause + ", -9)", guard.locked(cause, -9), model.locked(cause, -9));
        }
        return same && (guard.places() == model.places() || same("places()", guard.places(), model.places()));
    }
}
