/** Promises 9 enter, 10 leave, 11 guard, 12 walk, 13 capture, 14 combine, 15 spawn, 16 end. */
public final class StackTest {
    private static final int[] NO_THREADS = {-1, 1, 3, 4, Integer.MIN_VALUE, Integer.MAX_VALUE};
    private static final int[] FAR = {-2, 8, Integer.MIN_VALUE, Integer.MAX_VALUE};

    public static void main(String[] args) {
        framesAreCountedUpToTen();
        leaveEndsTheGuardBelow();
        leaveEndsTheGuardOfTheLastFrame();
        guardWithoutLimitEndsTheWalk();
        guardWithLimitEndsTheWalkForWhatItTakesIn();
        guardIsSetAnew();
        guardKeepsWhatTheSlotHeld();
        guardOfTheLastFrameHidesTheMaker();
        captureFillsTheLowestContext();
        captureOfNothing();
        combineJoins();
        guardsKeepTheirContext();
        spawnHandsOverTheWalk();
        endTakesTheFrames();
        wrongThreads();
        wrongContextsAndSlots();
        Expect.finish();
    }

    private static StackGuard entered(StackGuard guard, int... sources) {
        for (int source : sources) {
            guard.enter(0, source);
        }
        return guard;
    }

    private static void framesAreCountedUpToTen() {
        StackGuard guard = new StackGuard();
        for (int i = 1; i <= 10; i++) {
            Expect.same("enter " + i, i, guard.enter(0, i % 6));
        }
        Expect.thrown("enter 11", Expect.BAD_STATE, () -> guard.enter(0, 0));
        Expect.thrown("no such source comes first", Expect.NO_ELEMENT, () -> guard.enter(0, 6));
        for (int i = 10; i >= 1; i--) {
            Expect.same("leave " + i, i % 6, guard.leave(0));
        }
        Expect.thrown("leave with none", Expect.BAD_STATE, () -> guard.leave(0));
        Expect.same("enter anew", 1, guard.enter(0, 0));
        for (int source : new int[] {-1, 6, Integer.MIN_VALUE, Integer.MAX_VALUE}) {
            Expect.thrown("enter(0, " + source + ")", Expect.NO_ELEMENT, () -> guard.enter(0, source));
        }
    }

    private static void leaveEndsTheGuardBelow() {
        StackGuard guard = entered(new StackGuard(), 0, 1);
        guard.guard(0, -1, -1);
        entered(guard, 2, 3);
        Expect.same("guarded", 0b1110, guard.walk(0, -1));
        guard.leave(0);
        Expect.same("still guarded, not on top", 0b110, guard.walk(0, -1));
        guard.leave(0);
        Expect.same("on top, a guard no more", 0b11, guard.walk(0, -1));
        entered(guard, 4);
        Expect.same("nor with a new frame", 0b10011, guard.walk(0, -1));
        guard.guard(0, -1, -1);
        guard.leave(0);
        Expect.same("a guard that went", 0b11, guard.walk(0, -1));
        entered(guard, 5);
        Expect.same("its place is new", 0b100011, guard.walk(0, -1));
    }

    private static void leaveEndsTheGuardOfTheLastFrame() {
        StackGuard guard = entered(new StackGuard(), 5);
        guard.spawn(0);
        guard.enter(1, 0);
        guard.guard(1, -1, -1);
        guard.enter(1, 1);
        Expect.same("guarded", 0b11, guard.walk(1, -1));
        guard.leave(1);
        Expect.same("a guard no more: the maker counts", 0b100001, guard.walk(1, -1));
    }

    private static void guardWithoutLimitEndsTheWalk() {
        StackGuard guard = entered(Expect.with("na"), 4);
        guard.capture(0);
        entered(guard, 1, 2);
        guard.guard(0, -1, -1);
        Expect.same("the guard's own source", 0b100, guard.walk(0, 0));
        guard.guard(0, 0, -1);
        Expect.same("with its context", 0b10100, guard.walk(0, 0));
        Expect.same("with its context, for nothing", 0b10100, guard.walk(0, -1));
        entered(guard, 0);
        Expect.same("from above", 0b10101, guard.walk(0, 0));
    }

    private static void guardWithLimitEndsTheWalkForWhatItTakesIn() {
        StackGuard guard = entered(Expect.with("na.*", "na.b", "na", "*"), 5);
        guard.capture(0);
        guard.leave(0);
        entered(guard, 0, 1);
        guard.guard(0, 0, 0);
        entered(guard, 2);
        Expect.same("taken in", 0b100110, guard.walk(0, 1));
        Expect.same("the limit itself", 0b100110, guard.walk(0, 0));
        Expect.same("not taken in: no context, and on", 0b111, guard.walk(0, 2));
        Expect.same("ALL is not taken in", 0b111, guard.walk(0, 3));
        Expect.same("nothing is not taken in", 0b111, guard.walk(0, -1));
        guard.guard(0, -1, 3);
        Expect.same("ALL takes in", 0b100, guard.walk(0, 2));
        Expect.same("ALL does not take in nothing", 0b111, guard.walk(0, -1));
        Expect.same("one guard is passed, the next ends", 0b100, guard.walk(0, 3));
    }

    private static void guardIsSetAnew() {
        StackGuard guard = entered(Expect.with("na", "nb"), 3);
        guard.capture(0);
        entered(guard, 1);
        guard.guard(0, 0, 0);
        Expect.same("first", 0b1010, guard.walk(0, 0));
        guard.leave(0);
        entered(guard, 1);
        guard.guard(0, 0, 0);
        guard.guard(0, -1, 1);
        Expect.same("the old limit is gone", 0b1010, guard.walk(0, 0));
        Expect.same("the old context is gone", 0b10, guard.walk(0, 1));
    }

    private static void guardKeepsWhatTheSlotHeld() {
        StackGuard guard = entered(Expect.with("na", "na"), 0, 1);
        guard.guard(0, -1, 0);
        Expect.keep(guard, 0, "nb");
        Expect.same("what it was", 0b10, guard.walk(0, 1));
        Expect.same("not what it is", 0b11, guard.walk(0, 0));
    }

    private static void guardOfTheLastFrameHidesTheMaker() {
        StackGuard guard = entered(Expect.with("na"), 5);
        guard.spawn(0);
        guard.enter(1, 0);
        Expect.same("the maker counts", 0b100001, guard.walk(1, -1));
        guard.guard(1, -1, -1);
        Expect.same("the guard ends it", 0b1, guard.walk(1, -1));
        guard.guard(1, -1, 0);
        Expect.same("for nothing it goes on", 0b100001, guard.walk(1, -1));
        Expect.same("for its limit it ends", 0b1, guard.walk(1, 0));
    }

    private static void captureFillsTheLowestContext() {
        StackGuard guard = new StackGuard();
        for (int i = 0; i < 8; i++) {
            guard.enter(0, i % 6);
            Expect.same("capture " + i, i, guard.capture(0));
        }
        Expect.thrown("none is empty", Expect.BAD_STATE, () -> guard.capture(0));
        Expect.thrown("no such thread comes first", Expect.NO_ELEMENT, () -> guard.capture(1));
        guard.combine(2, 5);
        Expect.same("the one that is empty", 5, guard.capture(0));
        guard.combine(7, 1);
        guard.combine(0, 3);
        Expect.same("the lowest of two", 3, guard.capture(0));
        Expect.same("the other one", 7, guard.capture(0));
    }

    private static void captureOfNothing() {
        StackGuard guard = new StackGuard();
        Expect.same("capture", 0, guard.capture(0));
        Expect.same("no longer empty", 1, guard.capture(0));
        guard.enter(0, 2);
        guard.guard(0, 0, -1);
        Expect.same("a context without sources", 0b100, guard.walk(0, -1));
        Expect.same("two without sources", 0, guard.combine(0, 1));
    }

    private static void combineJoins() {
        StackGuard guard = entered(new StackGuard(), 0, 1);
        guard.capture(0);
        guard.guard(0, -1, -1);
        guard.enter(0, 4);
        guard.capture(0);
        Expect.same("the sources of both", 3, guard.combine(1, 0));
        Expect.thrown("the higher one is empty", Expect.NO_ELEMENT, () -> guard.combine(0, 1));
        Expect.thrown("an empty one with itself", Expect.NO_ELEMENT, () -> guard.combine(1, 1));
        Expect.thrown("one with itself", Expect.BAD_ARGUMENT, () -> guard.combine(0, 0));
        guard.enter(0, 5);
        guard.guard(0, 0, -1);
        Expect.same("the lower one has them", 0b110011, guard.walk(0, -1));
        for (int context : FAR) {
            Expect.thrown("combine(" + context + ", 0)", Expect.NO_ELEMENT, () -> guard.combine(context, 0));
            Expect.thrown("combine(0, " + context + ")", Expect.NO_ELEMENT, () -> guard.combine(0, context));
        }
        Expect.thrown("combine(-1, 0)", Expect.NO_ELEMENT, () -> guard.combine(-1, 0));
        Expect.thrown("combine(-1, -1)", Expect.NO_ELEMENT, () -> guard.combine(-1, -1));
    }

    private static void guardsKeepTheirContext() {
        StackGuard guard = entered(new StackGuard(), 0);
        guard.capture(0);
        guard.leave(0);
        guard.enter(0, 1);
        guard.capture(0);
        guard.spawn(0);
        guard.enter(0, 2);
        guard.guard(0, 0, -1);
        guard.enter(1, 3);
        guard.guard(1, 1, -1);
        guard.combine(0, 1);
        Expect.same("a guard with the lower one", 0b101, guard.walk(0, -1));
        Expect.same("a guard with the one that is empty", 0b1010, guard.walk(1, -1));
        guard.capture(0);
        Expect.same("a guard with one that is filled anew", 0b1010, guard.walk(1, -1));
    }

    private static void spawnHandsOverTheWalk() {
        StackGuard guard = entered(Expect.with("na"), 0, 1);
        guard.guard(0, -1, -1);
        guard.enter(0, 2);
        Expect.same("spawn", 1, guard.spawn(0));
        Expect.same("from its maker", 0b110, guard.walk(1, -1));
        guard.leave(0);
        guard.leave(0);
        Expect.same("as it was then", 0b110, guard.walk(1, 0));
        guard.enter(1, 3);
        Expect.same("spawn of a spawned one", 2, guard.spawn(1));
        Expect.same("with what that one has from its maker", 0b1110, guard.walk(2, -1));
        Expect.same("the last one", 3, guard.spawn(0));
        Expect.thrown("all are there", Expect.BAD_STATE, () -> guard.spawn(2));
        Expect.thrown("no such thread comes first", Expect.NO_ELEMENT, () -> guard.spawn(4));
        guard.end(2);
        guard.end(1);
        Expect.same("the lowest that is not there", 1, guard.spawn(3));
        Expect.same("made anew, it has what its new maker gave", 0b1, guard.walk(1, -1));
        Expect.thrown("and no frames", Expect.BAD_STATE, () -> guard.leave(1));
    }

    private static void endTakesTheFrames() {
        StackGuard guard = entered(new StackGuard(), 0);
        guard.spawn(0);
        guard.enter(1, 4);
        guard.enter(1, 5);
        guard.spawn(1);
        Expect.same("its frames", 2, guard.end(1));
        Expect.thrown("it is there no more", Expect.NO_ELEMENT, () -> guard.end(1));
        Expect.same("the one it made stays", 0b110001, guard.walk(2, -1));
        Expect.same("no frames", 0, guard.end(2));
        Expect.thrown("thread 0", Expect.BAD_ARGUMENT, () -> guard.end(0));
        Expect.same("thread 0 stays", 0b1, guard.walk(0, -1));
    }

    private static void wrongThreads() {
        StackGuard guard = Expect.with("*");
        for (int thread : NO_THREADS) {
            Expect.thrown("enter(" + thread + ", 0)", Expect.NO_ELEMENT, () -> guard.enter(thread, 0));
            Expect.thrown("leave(" + thread + ")", Expect.NO_ELEMENT, () -> guard.leave(thread));
            Expect.thrownBy("guard(" + thread + ", -1, -1)", Expect.NO_ELEMENT, () -> guard.guard(thread, -1, -1));
            Expect.thrown("walk(" + thread + ", 0)", Expect.NO_ELEMENT, () -> guard.walk(thread, 0));
            Expect.thrown("walk(" + thread + ", -1)", Expect.NO_ELEMENT, () -> guard.walk(thread, -1));
            Expect.thrown("capture(" + thread + ")", Expect.NO_ELEMENT, () -> guard.capture(thread));
            Expect.thrown("spawn(" + thread + ")", Expect.NO_ELEMENT, () -> guard.spawn(thread));
            Expect.thrown("end(" + thread + ")", Expect.NO_ELEMENT, () -> guard.end(thread));
        }
        Expect.same("nothing was captured", 0, guard.capture(0));
        Expect.same("nothing was spawned", 1, guard.spawn(0));
    }

    private static void wrongContextsAndSlots() {
        StackGuard guard = Expect.with("*");
        guard.capture(0);
        Expect.thrownBy("no frame", Expect.BAD_STATE, () -> guard.guard(0, 0, 0));
        Expect.thrownBy("an empty context comes first", Expect.NO_ELEMENT, () -> guard.guard(0, 1, 0));
        Expect.thrownBy("an empty slot comes first", Expect.NO_ELEMENT, () -> guard.guard(0, 0, 1));
        entered(guard, 0, 1);
        for (int number : FAR) {
            Expect.thrownBy("context " + number, Expect.NO_ELEMENT, () -> guard.guard(0, number, 0));
            Expect.thrownBy("slot " + number, Expect.NO_ELEMENT, () -> guard.guard(0, 0, number));
            Expect.thrown("walk(0, " + number + ")", Expect.NO_ELEMENT, () -> guard.walk(0, number));
        }
        Expect.thrownBy("an empty context", Expect.NO_ELEMENT, () -> guard.guard(0, 7, -1));
        Expect.thrownBy("an empty slot", Expect.NO_ELEMENT, () -> guard.guard(0, -1, 7));
        Expect.thrown("walk for an empty slot", Expect.NO_ELEMENT, () -> guard.walk(0, 7));
        Expect.same("no guard was made", 0b11, guard.walk(0, 0));
    }
}
