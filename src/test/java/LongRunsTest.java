/** Runs of 512 calls, the same ones each time, with each answer held against the Model's. */
public final class LongRunsTest {
    private static final int RUNS = 2000;
    private static final int CALLS = 512;
    private static final String[] TEXTS = {
        "*", "n*", "na", "na.*", "na.b", "na.b.*", "na.b.c", "f/-:rwxd", "f/*:rw", "f/a:r", "f/a:w", "f/a:wr",
        "f/a/*:xd", "f/a/-:rx", "f/a/b:dx", "f/a/b:rwx", "f/a/b/*:w", "f/a/b/c:wr", "h*:-", "h*:-7", "h*:2-",
        "h*.a:1-8", "h*.b.a:4", "hc.b.a:4-5", "ha:3", "hb.a:5-4", "hb.a:2-6", "nb.a.*.c", "f/a:rr", "x", "",
    };

    private long drawn;
    private final StackGuard guard = new StackGuard();
    private final Model model = new Model();
    private int calls = 0;

    private LongRunsTest(int seed) {
        drawn = seed;
    }

    public static void main(String[] args) {
        for (int seed = 0; seed < RUNS; seed++) {
            new LongRunsTest(seed).run();
        }
        Expect.finish();
    }

    private void run() {
        int fill = draw(9);
        for (int slot = 0; slot < fill; slot++) {
            keep(slot);
        }
        while (calls < CALLS) {
            step();
        }
    }

    /** A number that only the seed decides, so that each run of this test makes the same calls. */
    private int draw(int below) {
        drawn = drawn * 6364136223846793005L + 1442695040888963407L;
        return (int) ((drawn >>> 33) % below);
    }

    private void hold(String what, Expect.Call due, Expect.Call got) {
        calls++;
        Expect.same("call " + calls + ": " + what, Expect.outcome(due), Expect.outcome(got));
    }

    private void keep(int slot) {
        for (char c : TEXTS[draw(TEXTS.length)].toCharArray()) {
            hold("type " + c, () -> model.type(c), () -> guard.type(c));
        }
        hold("keep " + slot, () -> model.keepSucceeds(slot), () -> guard.keep(slot) == 0);
    }

    /** Mostly 0 .. below - 1, now and then one next to it. */
    private int number(int below) {
        return draw(12) == 0 ? draw(below + 3) - 2 : draw(below);
    }

    private void step() {
        int choice = draw(32);
        int a = number(4);
        int b = number(6);
        int c = number(8);
        int d = number(8);
        switch (choice) {
            case 0 -> keep(c);
            case 1 -> hold("written " + c + " " + d, () -> model.written(c, d), () -> guard.written(c, d));
            case 2 -> hold("takesIn " + c + " " + d, () -> model.takesIn(c, d), () -> guard.takesIn(c, d));
            case 3, 4, 5 -> hold("grant " + b + " " + c, () -> model.grant(b, c), () -> guard.grant(b, c));
            case 6 -> hold("revoke " + b + " " + c, () -> model.revoke(b, c), () -> guard.revoke(b, c));
            case 7 -> hold("may " + b + " " + c, () -> model.may(b, c), () -> guard.may(b, c));
            case 8 -> hold("idle " + b, () -> model.idle(b), () -> guard.idle(b));
            case 9, 10, 11, 12, 13 -> hold("enter " + a + " " + b, () -> model.enter(a, b), () -> guard.enter(a, b));
            case 14, 15 -> hold("leave " + a, () -> model.leave(a), () -> guard.leave(a));
            case 16, 17, 18 -> setGuard(a, draw(2) == 0 ? -1 : c, draw(4) == 0 ? -1 : d);
            case 19, 20 -> hold("walk " + a + " " + c, () -> model.walk(a, c), () -> guard.walk(a, c));
            case 21 -> hold("walk " + a + " -1", () -> model.walk(a, -1), () -> guard.walk(a, -1));
            case 22 -> hold("capture " + a, () -> model.capture(a), () -> guard.capture(a));
            case 23 -> hold("combine " + c + " " + d, () -> model.combine(c, d), () -> guard.combine(c, d));
            case 24 -> hold("spawn " + a, () -> model.spawn(a), () -> guard.spawn(a));
            case 25 -> hold("end " + a, () -> model.end(a), () -> guard.end(a));
            case 26, 27 -> hold("check " + a + " " + c, () -> model.check(a, c), () -> guard.check(a, c));
            case 28, 29 -> hold("allowed " + a, () -> model.allowed(a), () -> guard.allowed(a));
            default -> hold("note " + c + " " + (d & 1), () -> model.note(c, d & 1), () -> guard.note(c, d & 1));
        }
    }

    private void setGuard(int thread, int context, int slot) {
        hold("guard " + thread + " " + context + " " + slot, () -> {
            model.guard(thread, context, slot);
            return "done";
        }, () -> {
            guard.guard(thread, context, slot);
            return "done";
        });
    }
}
