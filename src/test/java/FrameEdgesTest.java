/** Promises 9 enter, 10 leave, 11 guard, 12 walk: each sentence that names a boundary case, with a test of its own. */
public final class FrameEdgesTest {
    private static final int[] NO_THREADS = {-1, 1, 3, 4, 32, Integer.MIN_VALUE, Integer.MAX_VALUE};

    public static void main(String[] args) {
        threadEdges();
        enterEdges();
        leaveEdges();
        leaveGuardEdges();
        guardEdges();
        guardPartsEdges();
        walkEdges();
        walkGuardEdges();
        walkEndEdges();
        walkArgumentEdges();
        Expect.finish();
    }

    private static StackGuard enter(StackGuard guard, int thread, int... sources) {
        for (int source : sources) {
            guard.enter(thread, source);
        }
        return guard;
    }

    private static void threadEdges() {
        Expect.edge("terms", "THREADS are 0 .. 3; thread 0 is there at first, the others are not.", () -> {
            StackGuard guard = Expect.with("na");
            Expect.same("thread 0", 0, guard.walk(0, -1));
            for (int thread : NO_THREADS) {
                Expect.thrown("enter " + thread, Expect.NO_ELEMENT, () -> guard.enter(thread, 0));
                Expect.thrown("leave " + thread, Expect.NO_ELEMENT, () -> guard.leave(thread));
                Expect.thrownBy("guard " + thread, Expect.NO_ELEMENT, () -> guard.guard(thread, -1, -1));
                Expect.thrown("walk " + thread, Expect.NO_ELEMENT, () -> guard.walk(thread, -1));
                Expect.thrown("capture " + thread, Expect.NO_ELEMENT, () -> guard.capture(thread));
                Expect.thrown("spawn " + thread, Expect.NO_ELEMENT, () -> guard.spawn(thread));
                Expect.thrown("end " + thread, Expect.NO_ELEMENT, () -> guard.end(thread));
                Expect.thrown("check " + thread, Expect.NO_ELEMENT, () -> guard.check(thread, 0));
                Expect.thrown("allowed " + thread, Expect.NO_ELEMENT, () -> guard.allowed(thread));
            }
        });
        Expect.edge("terms", "A thread has FRAMES, at most ten, none at first", () -> {
            StackGuard guard = new StackGuard();
            Expect.thrown("thread 0 has none", Expect.BAD_STATE, () -> guard.leave(0));
            enter(guard, 0, 0, 1, 2);
            guard.spawn(0);
            Expect.thrown("nor one that is made", Expect.BAD_STATE, () -> guard.leave(1));
            for (int frames = 1; frames <= 10; frames++) {
                Expect.same("each thread has its own ten", frames, guard.enter(1, 5));
            }
            Expect.same("thread 0 has its own", 4, guard.enter(0, 3));
        });
    }

    private static void enterEdges() {
        Expect.edge("9 enter", "A frame of a source on top of the thread's: how many there are.", () -> {
            StackGuard guard = new StackGuard();
            Expect.same("the first one", 1, guard.enter(0, 0));
            Expect.same("the same source again", 2, guard.enter(0, 0));
            Expect.same("the last source", 3, guard.enter(0, 5));
            Expect.same("it is on top", 5, guard.leave(0));
            Expect.same("there is one less", 3, guard.enter(0, 4));
        });
        Expect.edge("9 enter", "IllegalStateException: ten are there.", () -> {
            StackGuard guard = enter(new StackGuard(), 0, 0, 0, 0, 0, 0, 0, 0, 0, 0);
            Expect.same("the tenth", 10, guard.enter(0, 1));
            for (int source = 0; source < 6; source++) {
                int more = source;
                Expect.thrown("one more of " + source, Expect.BAD_STATE, () -> guard.enter(0, more));
            }
            Expect.same("what was refused is not there", 0b11, guard.walk(0, -1));
            Expect.same("the tenth goes", 1, guard.leave(0));
            Expect.same("nine: there is a place", 10, guard.enter(0, 2));
        });
        Expect.edge("9 enter", "int enter(int thread, int source) throws java.util.NoSuchElementException", () -> {
            StackGuard guard = enter(new StackGuard(), 0, 0, 0, 0, 0, 0, 0, 0, 0, 0);
            for (int source : new int[] {-1, 6, -6, 32, Integer.MIN_VALUE, Integer.MAX_VALUE}) {
                Expect.thrown("source " + source, Expect.NO_ELEMENT, () -> guard.enter(0, source));
            }
            Expect.same("no frame by that", 10, guard.enter(0, 0));
            Expect.thrown("source 6, ten there", Expect.NO_ELEMENT, () -> guard.enter(0, 6));
        });
    }

    private static void leaveEdges() {
        Expect.edge("10 leave", "The top frame goes", () -> {
            StackGuard guard = enter(new StackGuard(), 0, 0, 1, 2);
            guard.leave(0);
            Expect.same("without it", 0b11, guard.walk(0, -1));
            guard.leave(0);
            guard.leave(0);
            Expect.same("without any", 0, guard.walk(0, -1));
        });
        Expect.edge("10 leave", "the source of the frame that went", () -> {
            StackGuard guard = enter(new StackGuard(), 0, 5, 0, 3, 3);
            Expect.same("top", 3, guard.leave(0));
            Expect.same("one like it", 3, guard.leave(0));
            Expect.same("source 0", 0, guard.leave(0));
            Expect.same("the last frame", 5, guard.leave(0));
        });
        Expect.edge("10 leave", "IllegalStateException: there is none.", () -> {
            StackGuard guard = new StackGuard();
            Expect.thrown("none yet", Expect.BAD_STATE, () -> guard.leave(0));
            enter(guard, 0, 4);
            guard.spawn(0);
            Expect.thrown("what it has from its maker is no frame", Expect.BAD_STATE, () -> guard.leave(1));
            guard.leave(0);
            Expect.thrown("none any more", Expect.BAD_STATE, () -> guard.leave(0));
            Expect.same("none is less than none", 1, guard.enter(0, 0));
        });
    }

    private static void leaveGuardEdges() {
        Expect.edge("10 leave", "and the one that is on top then is a guard no more", () -> {
            StackGuard guard = enter(Expect.with("na"), 0, 5);
            guard.capture(0);
            enter(guard, 0, 0);
            guard.guard(0, 0, -1);
            enter(guard, 0, 1);
            guard.guard(0, -1, 0);
            enter(guard, 0, 2, 3);
            guard.leave(0);
            Expect.same("on top is none, a guard below stays", 0b110, guard.walk(0, 0));
            guard.leave(0);
            Expect.same("the upper guard is none any more", 0b100011, guard.walk(0, 0));
            enter(guard, 0, 4);
            Expect.same("nor is it when it is covered anew; the lower one stays", 0b110011, guard.walk(0, 0));
            guard.leave(0);
            guard.leave(0);
            Expect.same("the lower one is none any more", 0b100001, guard.walk(0, -1));
            guard.guard(0, -1, -1);
            Expect.same("it may become one again", 0b1, guard.walk(0, -1));
        });
        Expect.edge("10 leave", "the one that is on top then", () -> {
            StackGuard guard = enter(new StackGuard(), 0, 3);
            guard.guard(0, -1, -1);
            Expect.same("the last frame, a guard, goes: none is on top", 3, guard.leave(0));
            enter(guard, 0, 1, 2);
            Expect.same("what comes then is no guard", 0b110, guard.walk(0, -1));
        });
        Expect.edge("10 leave", "a guard no more", () -> {
            StackGuard guard = enter(new StackGuard(), 0, 4);
            guard.spawn(0);
            enter(guard, 1, 0);
            guard.guard(1, -1, -1);
            enter(guard, 1, 1);
            guard.leave(1);
            Expect.same("the last frame, too: what it has from its maker counts", 0b10001, guard.walk(1, -1));
            guard.enter(0, 1);
            guard.guard(0, -1, -1);
            enter(guard, 1, 2, 3);
            guard.leave(1);
            Expect.same("in this thread alone", 0b10, guard.walk(0, -1));
        });
    }

    private static void guardEdges() {
        Expect.edge("11 guard", "The top frame becomes a guard", () -> {
            StackGuard guard = enter(new StackGuard(), 0, 0, 1, 2);
            guard.guard(0, -1, -1);
            Expect.same("the top frame itself", 0b100, guard.walk(0, -1));
            enter(guard, 0, 3, 4, 5);
            Expect.same("and none above it", 0b111100, guard.walk(0, -1));
            StackGuard full = enter(new StackGuard(), 0, 0, 0, 0, 0, 0, 0, 0, 0, 0, 1);
            full.guard(0, -1, -1);
            Expect.same("the tenth", 0b10, full.walk(0, -1));
        });
        Expect.edge("11 guard", "in place of what it was", () -> {
            StackGuard guard = enter(Expect.with("na", "nb"), 0, 5);
            guard.capture(0);
            enter(guard, 0, 0);
            guard.guard(0, 0, -1);
            Expect.same("a context", 0b100001, guard.walk(0, 0));
            guard.guard(0, -1, -1);
            Expect.same("no context any more", 0b1, guard.walk(0, 0));
            guard.guard(0, -1, 1);
            Expect.same("a limit", 0b100001, guard.walk(0, 0));
            guard.guard(0, -1, 0);
            Expect.same("another limit", 0b1, guard.walk(0, 0));
            Expect.same("not the one before", 0b100001, guard.walk(0, 1));
            guard.guard(0, -1, -1);
            Expect.same("no limit any more", 0b1, guard.walk(0, 1));
        });
        Expect.edge("11 guard", "IllegalStateException: there is no frame.", () -> {
            StackGuard guard = Expect.with("na");
            guard.capture(0);
            Expect.thrownBy("none yet", Expect.BAD_STATE, () -> guard.guard(0, -1, -1));
            Expect.thrownBy("with all", Expect.BAD_STATE, () -> guard.guard(0, 0, 0));
            enter(guard, 0, 1);
            guard.spawn(0);
            Expect.thrownBy("what it has from its maker is no frame", Expect.BAD_STATE, () -> guard.guard(1, 0, 0));
            guard.leave(0);
            Expect.thrownBy("none any more", Expect.BAD_STATE, () -> guard.guard(0, -1, -1));
            enter(guard, 0, 2, 3);
            Expect.same("what comes then is no guard", 0b1100, guard.walk(0, -1));
        });
    }

    private static void guardPartsEdges() {
        Expect.edge("11 guard", "with a context (or none: -1)", () -> {
            StackGuard guard = enter(Expect.with("na"), 0, 5);
            for (int context = 0; context < 8; context++) {
                guard.capture(0);
            }
            enter(guard, 0, 0);
            guard.guard(0, 7, -1);
            Expect.same("the last context", 0b100001, guard.walk(0, -1));
            guard.guard(0, -1, -1);
            Expect.same("none", 0b1, guard.walk(0, -1));
            guard.guard(0, 0, -1);
            Expect.same("the first context", 0b100001, guard.walk(0, -1));
            for (int context : new int[] {-2, 8, 32, Integer.MIN_VALUE, Integer.MAX_VALUE}) {
                Expect.thrownBy("context " + context, Expect.NO_ELEMENT, () -> guard.guard(0, context, -1));
            }
            guard.combine(6, 7);
            Expect.thrownBy("one that is empty now", Expect.NO_ELEMENT, () -> guard.guard(0, 7, -1));
            Expect.same("the guard is as it was", 0b100001, guard.walk(0, -1));
        });
        Expect.edge("11 guard", "the permission that is in a slot now as its limit (or none: -1)", () -> {
            StackGuard guard = enter(Expect.with("na", "na", "nb"), 0, 0, 1);
            Expect.keep(guard, 7, "nb");
            guard.guard(0, -1, 7);
            Expect.same("the last slot", 0b10, guard.walk(0, 2));
            guard.guard(0, -1, 0);
            Expect.keep(guard, 0, "nb");
            Expect.same("what was in the slot", 0b10, guard.walk(0, 1));
            Expect.same("not what is in it", 0b11, guard.walk(0, 0));
            Expect.keep(guard, 0, "~");
            Expect.same("nor a fault", 0b10, guard.walk(0, 1));
            for (int slot : new int[] {-2, 6, 8, 32, Integer.MIN_VALUE, Integer.MAX_VALUE}) {
                Expect.thrownBy("slot " + slot, Expect.NO_ELEMENT, () -> guard.guard(0, -1, slot));
            }
            Expect.same("the guard is as it was", 0b11, guard.walk(0, -1));
            guard.guard(0, -1, -1);
            Expect.same("none", 0b10, guard.walk(0, -1));
        });
    }

    private static void walkEdges() {
        Expect.edge("terms", "from the top frame down, the source of each frame", () -> {
            StackGuard guard = Expect.with("na");
            Expect.same("no frame", 0, guard.walk(0, 0));
            enter(guard, 0, 5, 5, 5, 5, 5, 5, 5, 5, 5);
            Expect.same("a source once", 0b100000, guard.walk(0, 0));
            enter(guard, 0, 0);
            Expect.same("ten frames", 0b100001, guard.walk(0, 0));
            StackGuard all = enter(Expect.with("na"), 0, 3, 1, 5, 0, 2, 4);
            Expect.same("all sources", 0b111111, all.walk(0, 0));
        });
        Expect.edge("terms", "A thread HAS FROM ITS MAKER a set of sources (thread 0 none).", () -> {
            StackGuard guard = Expect.with("na");
            Expect.same("thread 0", 0, guard.walk(0, 0));
            guard.spawn(0);
            Expect.same("one whose maker had none", 0, guard.walk(1, 0));
            enter(guard, 0, 0, 1, 2, 3, 4, 5);
            guard.spawn(0);
            Expect.same("one that has all", 0b111111, guard.walk(2, 0));
            Expect.same("the first one as before", 0, guard.walk(1, 0));
        });
        Expect.edge("12 walk", "or for nothing (-1), as bits", () -> {
            StackGuard guard = new StackGuard();
            for (int source = 0; source < 6; source++) {
                guard.enter(0, source);
                Expect.same("source " + source, 1 << source, guard.walk(0, -1));
                guard.leave(0);
            }
            Expect.same("none", 0, guard.walk(0, -1));
        });
    }

    private static void walkGuardEdges() {
        Expect.edge("terms", "behind a guard it ends if the guard has no limit, or one that takes in q", () -> {
            StackGuard guard = enter(Expect.with("f/a/*:rw", "f/a/b:r", "f/a/b:rx", "f/a:r", "*"), 0, 0, 1);
            guard.guard(0, -1, 0);
            Expect.same("the limit itself", 0b10, guard.walk(0, 0));
            Expect.same("less than it", 0b10, guard.walk(0, 1));
            Expect.same("a letter more", 0b11, guard.walk(0, 2));
            Expect.same("a label less", 0b11, guard.walk(0, 3));
            Expect.same("ALL", 0b11, guard.walk(0, 4));
            guard.guard(0, -1, 4);
            Expect.same("ALL is the limit", 0b10, guard.walk(0, 4));
            guard.guard(0, -1, -1);
            Expect.same("no limit", 0b10, guard.walk(0, 4));
        });
        Expect.edge("terms", "and the sources of its context, if it has one, are among them, too", () -> {
            StackGuard guard = Expect.with("na", "nb");
            guard.capture(0);
            enter(guard, 0, 1, 2, 3, 4, 5);
            guard.capture(0);
            guard.guard(0, 0, 0);
            Expect.same("a context without sources", 0b100000, guard.walk(0, 0));
            guard.guard(0, 1, 0);
            Expect.same("a context with some that are there", 0b111110, guard.walk(0, 0));
            while (guard.walk(0, 1) != 0) {
                guard.leave(0);
            }
            enter(guard, 0, 0);
            guard.guard(0, 1, 0);
            Expect.same("it ends", 0b111111, guard.walk(0, 0));
            Expect.same("it does not end: no context", 0b1, guard.walk(0, 1));
        });
        Expect.edge("terms", "The walk for nothing is the same, no limit taking it in.", () -> {
            StackGuard guard = enter(Expect.with("*", "na"), 0, 0, 1);
            guard.guard(0, -1, -1);
            enter(guard, 0, 2);
            Expect.same("a guard without limit ends it", 0b110, guard.walk(0, -1));
            guard.guard(0, -1, 1);
            Expect.same("one with a limit does not", 0b110, guard.walk(0, -1));
            guard.guard(0, -1, 0);
            Expect.same("not even with ALL", 0b110, guard.walk(0, -1));
            Expect.same("which ends it for all else", 0b100, guard.walk(0, 1));
        });
    }

    private static void walkEndEdges() {
        Expect.edge("terms", "when it does not end by that, it goes on", () -> {
            StackGuard guard = enter(Expect.with("na", "nb", "nc"), 0, 0, 1);
            guard.guard(0, -1, 0);
            enter(guard, 0, 2);
            guard.guard(0, -1, 1);
            enter(guard, 0, 3);
            Expect.same("past one guard to the next", 0b1110, guard.walk(0, 0));
            Expect.same("the first guard ends it", 0b1100, guard.walk(0, 1));
            Expect.same("past both", 0b1111, guard.walk(0, 2));
        });
        Expect.edge("terms", "and behind the last frame what the thread has from its maker is among them", () -> {
            StackGuard guard = enter(Expect.with("na", "nb"), 0, 5);
            guard.spawn(0);
            Expect.same("no frame", 0b100000, guard.walk(1, 0));
            enter(guard, 1, 0);
            Expect.same("one frame", 0b100001, guard.walk(1, 0));
            guard.guard(1, -1, 0);
            Expect.same("the last frame ends it", 0b1, guard.walk(1, 0));
            Expect.same("the last frame does not end it", 0b100001, guard.walk(1, 1));
            enter(guard, 1, 1, 1, 1, 1, 1, 1, 1, 1, 1);
            Expect.same("ten frames", 0b100011, guard.walk(1, 1));
        });
    }

    private static void walkArgumentEdges() {
        Expect.edge("12 walk", "int walk(int thread, int slot) throws java.util.NoSuchElementException", () -> {
            StackGuard guard = enter(Expect.with("na"), 0, 0);
            for (int slot : new int[] {-2, 1, 7, 8, 32, Integer.MIN_VALUE, Integer.MAX_VALUE}) {
                Expect.thrown("slot " + slot, Expect.NO_ELEMENT, () -> guard.walk(0, slot));
                Expect.thrown("slot " + slot + ", no thread", Expect.NO_ELEMENT, () -> guard.walk(1, slot));
            }
            Expect.keep(guard, 7, "nb");
            Expect.same("the last slot", 1, guard.walk(0, 7));
        });
    }
}
