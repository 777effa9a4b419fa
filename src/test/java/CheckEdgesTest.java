/** Promises 17 check, 18 allowed, 19 note: each sentence that names a boundary case, with a test of its own. */
public final class CheckEdgesTest {
    private static final int[] NO_SLOTS = {-2, -1, 1, 7, 8, 32, Integer.MIN_VALUE, Integer.MAX_VALUE};

    public static void main(String[] args) {
        checkEdges();
        blameEdges();
        allowedEdges();
        noteEdges();
        noteArgumentEdges();
        Expect.finish();
    }

    private static void refused(StackGuard guard, int thread, int slot) {
        Expect.thrown("check " + thread + " " + slot, Expect.BAD_STATE, () -> guard.check(thread, slot));
    }

    /** A note that source is to blame; thread 0 has no frames before and behind it. */
    private static void blame(StackGuard guard, int source) {
        guard.enter(0, source);
        refused(guard, 0, 0);
        guard.leave(0);
    }

    private static void checkEdges() {
        Expect.edge("17 check", "Checks whether a thread is allowed what is in a slot: how many sources were walked.", () -> {
            StackGuard guard = Expect.with("na");
            Expect.same("none, though nothing is granted", 0, guard.check(0, 0));
            for (int source = 0; source < 6; source++) {
                guard.grant(source, 0);
                guard.enter(0, source);
                Expect.same("one more", source + 1, guard.check(0, 0));
            }
            guard.enter(0, 5);
            guard.enter(0, 5);
            guard.enter(0, 0);
            guard.enter(0, 0);
            Expect.same("ten frames", 6, guard.check(0, 0));
            guard.spawn(0);
            Expect.same("from its maker", 6, guard.check(1, 0));
            guard.enter(1, 2);
            guard.guard(1, -1, -1);
            Expect.same("the guard alone", 1, guard.check(1, 0));
        });
        Expect.edge("17 check", "IllegalStateException: it is not; this is NOTED (thread, source to blame).", () -> {
            StackGuard guard = Expect.with("na");
            guard.spawn(0);
            guard.spawn(0);
            guard.spawn(0);
            guard.enter(3, 5);
            refused(guard, 3, 0);
            Expect.same("the thread", 3, guard.note(0, 0));
            Expect.same("the source", 5, guard.note(0, 1));
            guard.enter(0, 0);
            refused(guard, 0, 0);
            Expect.same("the thread", 0, guard.note(0, 0));
            Expect.same("the source", 0, guard.note(0, 1));
            Expect.same("the one before", 3, guard.note(1, 0));
        });
        Expect.edge("17 check", "int check(int thread, int slot) throws java.util.NoSuchElementException", () -> {
            StackGuard guard = Expect.with("na");
            guard.enter(0, 0);
            for (int slot : NO_SLOTS) {
                Expect.thrown("slot " + slot, Expect.NO_ELEMENT, () -> guard.check(0, slot));
            }
            for (int thread : new int[] {-1, 1, 3, 4, 32, Integer.MIN_VALUE, Integer.MAX_VALUE}) {
                Expect.thrown("thread " + thread, Expect.NO_ELEMENT, () -> guard.check(thread, 0));
            }
            Expect.thrown("none of them is noted", Expect.BAD_ARGUMENT, () -> guard.note(0, 0));
        });
    }

    private static void blameEdges() {
        Expect.edge("terms", "A thread IS ALLOWED q if all sources that the walk for q gives may q", () -> {
            StackGuard guard = Expect.with("na", "na.b", "na.*");
            guard.grant(1, 2);
            guard.enter(0, 0);
            guard.enter(0, 1);
            refused(guard, 0, 1);
            guard.guard(0, -1, 2);
            Expect.same("by the guard", 1, guard.check(0, 1));
            refused(guard, 0, 0);
            guard.grant(0, 0);
            refused(guard, 0, 0);
            Expect.same("the other one is to blame now", 1, guard.note(0, 1));
            guard.grant(1, 0);
            Expect.same("both may", 2, guard.check(0, 0));
        });
        Expect.edge("terms", "otherwise the lowest that may not is to BLAME", () -> {
            StackGuard guard = Expect.with("na");
            int[] order = {2, 5, 0, 4, 1, 3};
            for (int source : order) {
                guard.enter(0, source);
            }
            for (int source = 0; source < 6; source++) {
                refused(guard, 0, 0);
                Expect.same("to blame", source, guard.note(0, 1));
                guard.grant(source, 0);
            }
            Expect.same("none is to blame", 6, guard.check(0, 0));
        });
        Expect.edge("terms", "all sources that the walk for q gives", () -> {
            StackGuard guard = Expect.with("na");
            guard.grant(4, 0);
            guard.enter(0, 2);
            guard.capture(0);
            guard.spawn(0);
            guard.enter(1, 4);
            refused(guard, 1, 0);
            Expect.same("one that it has from its maker", 2, guard.note(0, 1));
            guard.leave(0);
            guard.enter(0, 4);
            guard.guard(0, 0, -1);
            refused(guard, 0, 0);
            Expect.same("one of a context", 2, guard.note(0, 1));
        });
    }

    private static void allowedEdges() {
        Expect.edge("18 allowed", "How many slots' permissions (of those that are not empty) a thread is allowed", () -> {
            StackGuard guard = new StackGuard();
            Expect.same("all are empty", 0, guard.allowed(0));
            for (int slot = 7; slot >= 0; slot--) {
                Expect.keep(guard, slot, "na");
                Expect.same("no frame: all that are not empty", 8 - slot, guard.allowed(0));
            }
            guard.enter(0, 0);
            Expect.same("none", 0, guard.allowed(0));
            guard.grant(0, 0);
            Expect.same("all", 8, guard.allowed(0));
            Expect.keep(guard, 0, "nb");
            Expect.same("all but the first", 7, guard.allowed(0));
            Expect.keep(guard, 7, "nb");
            Expect.same("all but the first and the last", 6, guard.allowed(0));
            guard.guard(0, -1, 7);
            guard.enter(0, 1);
            Expect.same("the top frame may none", 0, guard.allowed(0));
        });
        Expect.edge("18 allowed", "nothing is noted", () -> {
            StackGuard guard = Expect.with("na", "nb");
            guard.enter(0, 2);
            Expect.same("none", 0, guard.allowed(0));
            Expect.thrown("no note", Expect.BAD_ARGUMENT, () -> guard.note(0, 0));
            guard.leave(0);
            blame(guard, 3);
            guard.enter(0, 2);
            guard.allowed(0);
            Expect.same("still the latest", 3, guard.note(0, 1));
            Expect.thrown("and the only one", Expect.BAD_ARGUMENT, () -> guard.note(1, 0));
        });
        Expect.edge("18 allowed", "int allowed(int thread) throws java.util.NoSuchElementException", () -> {
            StackGuard guard = new StackGuard();
            for (int thread : new int[] {-1, 1, 3, 4, 32, Integer.MIN_VALUE, Integer.MAX_VALUE}) {
                Expect.thrown("thread " + thread + ", all slots empty", Expect.NO_ELEMENT, () -> guard.allowed(thread));
            }
        });
    }

    private static void noteEdges() {
        Expect.edge("19 note", "Of note i (0 the latest, at most 7 are kept)", () -> {
            StackGuard guard = Expect.with("na");
            for (int count = 1; count <= 20; count++) {
                blame(guard, count % 6);
                Expect.same("the latest of " + count, count % 6, guard.note(0, 1));
                int oldest = Math.min(count, 7) - 1;
                Expect.same("the oldest of " + count, (count - oldest) % 6, guard.note(oldest, 1));
                Expect.thrown("one older", Expect.BAD_ARGUMENT, () -> guard.note(oldest + 1, 1));
            }
            for (int i = 0; i < 7; i++) {
                Expect.same("note " + i, (20 - i) % 6, guard.note(i, 1));
            }
        });
        Expect.edge("19 note", "0 its thread, 1 the source to blame", () -> {
            StackGuard guard = Expect.with("na");
            guard.spawn(0);
            guard.spawn(0);
            guard.enter(2, 1);
            refused(guard, 2, 0);
            guard.end(2);
            Expect.same("the thread, though it ended", 2, guard.note(0, 0));
            Expect.same("the source", 1, guard.note(0, 1));
            guard.grant(1, 0);
            Expect.same("the source, though it may now", 1, guard.note(0, 1));
        });
    }

    private static void noteArgumentEdges() {
        Expect.edge("19 note", "IllegalArgumentException: there is no such note or what.", () -> {
            StackGuard guard = Expect.with("na");
            Expect.thrown("no note yet", Expect.BAD_ARGUMENT, () -> guard.note(0, 0));
            blame(guard, 4);
            for (int what : new int[] {-1, 2, 3, Integer.MIN_VALUE, Integer.MAX_VALUE}) {
                Expect.thrown("what is " + what, Expect.BAD_ARGUMENT, () -> guard.note(0, what));
                Expect.thrown("no note and what is " + what, Expect.BAD_ARGUMENT, () -> guard.note(1, what));
            }
            for (int i : new int[] {-1, 1, 6, 7, 8, Integer.MIN_VALUE, Integer.MAX_VALUE}) {
                Expect.thrown("note " + i, Expect.BAD_ARGUMENT, () -> guard.note(i, 0));
                Expect.thrown("note " + i, Expect.BAD_ARGUMENT, () -> guard.note(i, 1));
            }
            Expect.same("the one that is there", 4, guard.note(0, 1));
        });
    }
}
