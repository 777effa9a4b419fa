/** Promises 13 capture, 14 combine, 15 spawn, 16 end: each sentence that names a boundary case, with its own test. */
public final class ThreadEdgesTest {
    public static void main(String[] args) {
        captureEdges();
        combineEdges();
        combineArgumentEdges();
        spawnEdges();
        endEdges();
        endedEdges();
        Expect.finish();
    }

    /** A context that has just these sources; thread 0 has no frames before and behind it. */
    private static int context(StackGuard guard, int... sources) {
        for (int source : sources) {
            guard.enter(0, source);
        }
        int context = guard.capture(0);
        for (int i = 0; i < sources.length; i++) {
            guard.leave(0);
        }
        return context;
    }

    /** What a context has, but for source 0; thread 0 has no frames before and behind it. */
    private static Object held(StackGuard guard, int context) {
        guard.enter(0, 0);
        Object walked = Expect.outcome(() -> {
            guard.guard(0, context, -1);
            return guard.walk(0, -1) & ~1;
        });
        guard.leave(0);
        return walked;
    }

    private static void captureEdges() {
        Expect.edge("13 capture", "What the walk of a thread for nothing gives (perhaps no source)", () -> {
            StackGuard guard = Expect.with("*");
            Expect.same("no source", 0, guard.capture(0));
            Expect.same("that is a context", 0, held(guard, 0));
            guard.enter(0, 1);
            guard.enter(0, 2);
            guard.guard(0, -1, 0);
            guard.enter(0, 3);
            Expect.same("no limit ends it", 1, guard.capture(0));
            guard.guard(0, -1, -1);
            guard.enter(0, 4);
            Expect.same("a guard ends it", 2, guard.capture(0));
            guard.spawn(0);
            Expect.same("what it has from its maker", 3, guard.capture(1));
            while (guard.walk(0, -1) != 0) {
                guard.leave(0);
            }
            Expect.same("the one", 0b1110, held(guard, 1));
            Expect.same("the other", 0b11000, held(guard, 2));
            Expect.same("the third", 0b11000, held(guard, 3));
        });
        Expect.edge("13 capture", "becomes the lowest context that is empty, which it is no more then: its number", () -> {
            StackGuard guard = new StackGuard();
            for (int i = 0; i < 8; i++) {
                Expect.same("without a source", i, guard.capture(0));
            }
            guard.combine(6, 7);
            guard.combine(3, 2);
            guard.combine(0, 1);
            Expect.same("the lowest of three", 1, guard.capture(0));
            Expect.same("the lowest of two", 3, guard.capture(0));
            Expect.same("the last one", 7, guard.capture(0));
        });
        Expect.edge("13 capture", "IllegalStateException: none is empty.", () -> {
            StackGuard guard = new StackGuard();
            for (int i = 0; i < 8; i++) {
                context(guard, i % 6);
            }
            guard.enter(0, 4);
            Expect.thrown("a ninth", Expect.BAD_STATE, () -> guard.capture(0));
            Expect.thrown("a ninth of no thread", Expect.NO_ELEMENT, () -> guard.capture(1));
            guard.leave(0);
            for (int i = 0; i < 8; i++) {
                Expect.same("context " + i, 1 << i % 6 & ~1, held(guard, i));
            }
        });
        Expect.edge("1 a new object", "slots and contexts are empty", () -> {
            StackGuard guard = new StackGuard();
            for (int i = 0; i < 8; i++) {
                Expect.same("context " + i, Expect.NO_ELEMENT, held(guard, i));
            }
        });
    }

    private static void combineEdges() {
        Expect.edge("14 combine", "the lower one has the sources of both, the other one is empty", () -> {
            for (int turn = 0; turn < 2; turn++) {
                StackGuard guard = new StackGuard();
                context(guard, 5);
                context(guard, 1, 2);
                context(guard, 2, 3);
                Expect.same("three sources", 3, turn == 0 ? guard.combine(1, 2) : guard.combine(2, 1));
                Expect.same("the lower one", 0b1110, held(guard, 1));
                Expect.same("the higher one", Expect.NO_ELEMENT, held(guard, 2));
                Expect.same("the one beside", 0b100000, held(guard, 0));
            }
        });
        Expect.edge("14 combine", "how many sources", () -> {
            StackGuard guard = new StackGuard();
            context(guard);
            context(guard);
            Expect.same("none and none", 0, guard.combine(0, 1));
            context(guard, 3);
            Expect.same("none and one", 1, guard.combine(0, 1));
            context(guard, 3);
            Expect.same("one that is in both", 1, guard.combine(0, 1));
            context(guard, 0, 1, 2, 3, 4, 5);
            Expect.same("all", 6, guard.combine(0, 1));
        });
        Expect.edge("14 combine", "Guards that had one of them keep what it was.", () -> {
            StackGuard guard = new StackGuard();
            context(guard, 1);
            context(guard, 2);
            guard.spawn(0);
            guard.enter(0, 0);
            guard.guard(0, 0, -1);
            guard.enter(1, 0);
            guard.guard(1, 1, -1);
            guard.combine(1, 0);
            Expect.same("one that had the lower one", 0b11, guard.walk(0, -1));
            Expect.same("one that had the other one", 0b101, guard.walk(1, -1));
            guard.spawn(0);
            guard.enter(2, 5);
            Expect.same("the other one anew", 1, guard.capture(2));
            Expect.same("still what it was", 0b101, guard.walk(1, -1));
            guard.guard(1, 0, -1);
            Expect.same("a guard from now on", 0b111, guard.walk(1, -1));
        });
    }

    private static void combineArgumentEdges() {
        Expect.edge("14 combine", "IllegalArgumentException: they are the same.", () -> {
            StackGuard guard = new StackGuard();
            for (int i = 0; i < 8; i++) {
                context(guard, 1);
            }
            Expect.thrown("the first one", Expect.BAD_ARGUMENT, () -> guard.combine(0, 0));
            Expect.thrown("the last one", Expect.BAD_ARGUMENT, () -> guard.combine(7, 7));
            Expect.same("the first one is there", 0b10, held(guard, 0));
            Expect.same("the last one is there", 0b10, held(guard, 7));
            Expect.same("two that have the same are not the same", 1, guard.combine(0, 7));
        });
        Expect.edge("14 combine", "int combine(int one, int other) throws java.util.NoSuchElementException", () -> {
            StackGuard guard = new StackGuard();
            context(guard, 1);
            for (int none : new int[] {-1, 1, 7, 8, 32, Integer.MIN_VALUE, Integer.MAX_VALUE}) {
                Expect.thrown("one is " + none, Expect.NO_ELEMENT, () -> guard.combine(none, 0));
                Expect.thrown("the other is " + none, Expect.NO_ELEMENT, () -> guard.combine(0, none));
                Expect.thrown("both are " + none, Expect.NO_ELEMENT, () -> guard.combine(none, none));
            }
            Expect.same("the one that is there", 0b10, held(guard, 0));
            Expect.same("no other one", 1, guard.capture(0));
        });
    }

    private static void spawnEdges() {
        Expect.edge("15 spawn", "The lowest thread that is not there is made by another one", () -> {
            StackGuard guard = new StackGuard();
            Expect.same("by thread 0", 1, guard.spawn(0));
            Expect.same("by thread 1", 2, guard.spawn(1));
            Expect.same("by thread 2", 3, guard.spawn(2));
            guard.end(3);
            guard.end(1);
            Expect.same("the lower one of two", 1, guard.spawn(2));
            Expect.same("the other one", 3, guard.spawn(1));
            guard.end(2);
            Expect.same("one between", 2, guard.spawn(3));
        });
        Expect.edge("15 spawn", "what that one's walk for nothing gives, it has from its maker", () -> {
            StackGuard guard = Expect.with("*");
            guard.spawn(0);
            Expect.same("nothing", 0, guard.walk(1, -1));
            guard.enter(0, 0);
            guard.enter(0, 1);
            guard.guard(0, -1, 0);
            guard.spawn(0);
            Expect.same("no limit ends it", 0b11, guard.walk(2, 0));
            guard.guard(0, -1, -1);
            guard.spawn(0);
            Expect.same("a guard ends it", 0b10, guard.walk(3, 0));
            guard.leave(0);
            guard.leave(0);
            guard.enter(0, 5);
            Expect.same("not what its maker does then", 0b10, guard.walk(3, 0));
            guard.end(1);
            guard.enter(2, 4);
            guard.spawn(2);
            Expect.same("from the maker's maker, too", 0b10011, guard.walk(1, 0));
        });
        Expect.edge("15 spawn", "IllegalStateException: all are there.", () -> {
            StackGuard guard = new StackGuard();
            for (int made = 1; made < 4; made++) {
                Expect.same("spawn", made, guard.spawn(0));
                guard.enter(made, made);
            }
            for (int thread = 0; thread < 4; thread++) {
                int maker = thread;
                Expect.thrown("by " + thread, Expect.BAD_STATE, () -> guard.spawn(maker));
            }
            Expect.thrown("by none", Expect.NO_ELEMENT, () -> guard.spawn(4));
            for (int thread = 1; thread < 4; thread++) {
                Expect.same("thread " + thread, 1 << thread, guard.walk(thread, -1));
            }
            guard.end(3);
            Expect.same("there is a place", 3, guard.spawn(0));
        });
    }

    private static void endEdges() {
        Expect.edge("16 end", "A thread that is not 0 ends, with all its frames: how many.", () -> {
            StackGuard guard = new StackGuard();
            guard.spawn(0);
            Expect.same("no frame", 0, guard.end(1));
            guard.spawn(0);
            for (int i = 0; i < 10; i++) {
                guard.enter(1, i % 6);
            }
            guard.guard(1, -1, -1);
            Expect.same("ten frames, one a guard", 10, guard.end(1));
            guard.spawn(0);
            Expect.thrown("made anew it has none", Expect.BAD_STATE, () -> guard.leave(1));
            Expect.same("nor what it had", 0, guard.walk(1, -1));
            guard.spawn(0);
            guard.spawn(0);
            Expect.same("the last thread", 0, guard.end(3));
        });
        Expect.edge("16 end", "IllegalArgumentException: it is 0.", () -> {
            StackGuard guard = new StackGuard();
            Expect.thrown("alone", Expect.BAD_ARGUMENT, () -> guard.end(0));
            guard.enter(0, 2);
            guard.spawn(0);
            Expect.thrown("with others", Expect.BAD_ARGUMENT, () -> guard.end(0));
            Expect.same("it is there, with its frame", 2, guard.leave(0));
        });
    }

    private static void endedEdges() {
        Expect.edge("terms", "there is no such thread (any more)", () -> {
            StackGuard guard = Expect.with("na");
            guard.enter(0, 3);
            guard.spawn(0);
            guard.enter(1, 1);
            guard.spawn(1);
            guard.end(1);
            Expect.thrown("enter", Expect.NO_ELEMENT, () -> guard.enter(1, 0));
            Expect.thrown("leave", Expect.NO_ELEMENT, () -> guard.leave(1));
            Expect.thrownBy("guard", Expect.NO_ELEMENT, () -> guard.guard(1, -1, -1));
            Expect.thrown("walk", Expect.NO_ELEMENT, () -> guard.walk(1, -1));
            Expect.thrown("capture", Expect.NO_ELEMENT, () -> guard.capture(1));
            Expect.thrown("spawn", Expect.NO_ELEMENT, () -> guard.spawn(1));
            Expect.thrown("end", Expect.NO_ELEMENT, () -> guard.end(1));
            Expect.thrown("check", Expect.NO_ELEMENT, () -> guard.check(1, 0));
            Expect.thrown("allowed", Expect.NO_ELEMENT, () -> guard.allowed(1));
            Expect.same("what it made stays", 0b1010, guard.walk(2, -1));
            Expect.same("what made it stays", 0b1000, guard.walk(0, -1));
        });
    }
}
