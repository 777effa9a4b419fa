/** Promise 1: a new object. */
public final class NewObjectTest {
    public static void main(String[] args) {
        Expect.same("NONE", -1, StackGuard.NONE);
        StackGuard guard = new StackGuard();
        padIsEmpty(guard);
        slotsAreEmpty(guard);
        nothingIsGranted(guard);
        onlyThreadZeroIsThere(guard);
        contextsAreEmpty(guard);
        Expect.thrown("no note yet", Expect.BAD_ARGUMENT, () -> guard.note(0, 0));
        objectsDoNotShareState();
        Expect.finish();
    }

    private static void padIsEmpty(StackGuard guard) {
        Expect.same("keep of an empty pad", 1, guard.keep(0));
    }

    private static void slotsAreEmpty(StackGuard guard) {
        for (int slot = 0; slot < 8; slot++) {
            int s = slot;
            Expect.thrown("slot " + s + " is empty", Expect.NO_ELEMENT, () -> guard.written(s, 0));
        }
        Expect.same("no slot to be allowed", 0, guard.allowed(0));
    }

    private static void nothingIsGranted(StackGuard guard) {
        for (int source = 0; source < 6; source++) {
            int s = source;
            Expect.same("idle of source " + s, 0f, guard.idle(s));
            Expect.thrown("no grant of source " + s, Expect.BAD_ARGUMENT, () -> guard.revoke(s, 0));
        }
    }

    private static void onlyThreadZeroIsThere(StackGuard guard) {
        Expect.same("thread 0 has no frame and nothing from a maker", 0, guard.walk(0, -1));
        Expect.thrown("no frame to leave", Expect.BAD_STATE, () -> guard.leave(0));
        for (int thread = 1; thread < 4; thread++) {
            int t = thread;
            Expect.thrown("thread " + t + " is not there", Expect.NO_ELEMENT, () -> guard.walk(t, -1));
        }
    }

    private static void contextsAreEmpty(StackGuard guard) {
        for (int context = 0; context < 8; context++) {
            int c = context;
            Expect.thrownBy("context " + c + " is empty", Expect.NO_ELEMENT, () -> guard.guard(0, c, -1));
        }
    }

    private static void objectsDoNotShareState() {
        StackGuard used = Expect.with("*");
        used.grant(0, 0);
        used.enter(0, 3);
        used.capture(0);
        used.spawn(0);
        used.type('*');
        Expect.outcome(() -> used.check(0, 0));
        StackGuard fresh = new StackGuard();
        padIsEmpty(fresh);
        slotsAreEmpty(fresh);
        nothingIsGranted(fresh);
        onlyThreadZeroIsThere(fresh);
        contextsAreEmpty(fresh);
        Expect.thrown("no note shared", Expect.BAD_ARGUMENT, () -> fresh.note(0, 0));
    }
}
