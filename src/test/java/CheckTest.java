/** Promises 17 check, 18 allowed, 19 note. */
public final class CheckTest {
    public static void main(String[] args) {
        checkCountsSources();
        lowestSourceIsToBlame();
        checkFollowsTheWalk();
        allowedCountsSlots();
        sevenNotesAreKept();
        onlyRefusalsAreNoted();
        wrongArguments();
        Expect.finish();
    }

    private static void checkCountsSources() {
        StackGuard guard = Expect.with("*", "na");
        Expect.same("nothing walked", 0, guard.check(0, 0));
        for (int source = 0; source < 6; source++) {
            guard.grant(source, 0);
            guard.enter(0, source);
            Expect.same("sources walked", source + 1, guard.check(0, 1));
        }
        guard.enter(0, 3);
        Expect.same("each source once", 6, guard.check(0, 1));
    }

    private static void lowestSourceIsToBlame() {
        StackGuard guard = Expect.with("na", "nb");
        guard.grant(1, 0);
        guard.enter(0, 4);
        guard.enter(0, 1);
        guard.enter(0, 2);
        Expect.thrown("2 and 4 may not", Expect.BAD_STATE, () -> guard.check(0, 0));
        Expect.same("thread", 0, guard.note(0, 0));
        Expect.same("blamed", 2, guard.note(0, 1));
        Expect.thrown("1, 2 and 4 may not", Expect.BAD_STATE, () -> guard.check(0, 1));
        Expect.same("blamed", 1, guard.note(0, 1));
        Expect.same("the one before", 2, guard.note(1, 1));
        guard.grant(2, 0);
        guard.spawn(0);
        Expect.thrown("4 may not, by what thread 1 has from its maker", Expect.BAD_STATE, () -> guard.check(1, 0));
        Expect.same("thread", 1, guard.note(0, 0));
        Expect.same("blamed", 4, guard.note(0, 1));
        guard.end(1);
        Expect.same("a note stays when its thread ends", 1, guard.note(0, 0));
        guard.grant(4, 0);
        Expect.same("all may", 3, guard.check(0, 0));
    }

    private static void checkFollowsTheWalk() {
        StackGuard guard = Expect.with("na.*", "na.b", "nc");
        guard.grant(1, 0);
        guard.grant(1, 2);
        guard.enter(0, 5);
        guard.enter(0, 1);
        guard.guard(0, -1, 0);
        Expect.same("what the limit takes in", 1, guard.check(0, 1));
        Expect.thrown("what it does not", Expect.BAD_STATE, () -> guard.check(0, 2));
        Expect.same("blamed", 5, guard.note(0, 1));
    }

    private static void allowedCountsSlots() {
        StackGuard guard = Expect.with("f/a:rw", "f/a:r", "f/a:w", "na", "*");
        Expect.same("with nothing walked all that are filled", 5, guard.allowed(0));
        guard.enter(0, 0);
        Expect.same("nothing granted", 0, guard.allowed(0));
        guard.grant(0, 1);
        Expect.same("one letter", 1, guard.allowed(0));
        guard.grant(0, 2);
        Expect.same("letter by letter", 3, guard.allowed(0));
        guard.enter(0, 1);
        guard.grant(1, 4);
        Expect.same("two sources", 3, guard.allowed(0));
        guard.guard(0, -1, 3);
        Expect.same("a limit for one slot", 4, guard.allowed(0));
        guard.guard(0, -1, -1);
        Expect.same("a guard without limit", 5, guard.allowed(0));
        Expect.thrown("nothing was noted", Expect.BAD_ARGUMENT, () -> guard.note(0, 0));
    }

    private static void sevenNotesAreKept() {
        StackGuard guard = Expect.with("na");
        for (int source = 5; source >= 0; source--) {
            refuse(guard, source);
        }
        for (int i = 0; i < 6; i++) {
            Expect.same("note " + i, i, guard.note(i, 1));
        }
        Expect.thrown("no seventh yet", Expect.BAD_ARGUMENT, () -> guard.note(6, 1));
        refuse(guard, 3);
        Expect.same("the seventh", 5, guard.note(6, 1));
        refuse(guard, 4);
        Expect.same("the latest", 4, guard.note(0, 1));
        Expect.same("the one before", 3, guard.note(1, 1));
        Expect.same("the oldest went", 4, guard.note(6, 1));
        Expect.thrown("no eighth", Expect.BAD_ARGUMENT, () -> guard.note(7, 1));
    }

    private static void refuse(StackGuard guard, int source) {
        guard.enter(0, source);
        Expect.thrown("refused by " + source, Expect.BAD_STATE, () -> guard.check(0, 0));
        guard.leave(0);
    }

    private static void onlyRefusalsAreNoted() {
        StackGuard guard = Expect.with("na");
        guard.check(0, 0);
        Expect.thrown("no such thread", Expect.NO_ELEMENT, () -> guard.check(1, 0));
        guard.enter(0, 0);
        Expect.thrown("an empty slot", Expect.NO_ELEMENT, () -> guard.check(0, 1));
        Expect.thrown("nothing was noted", Expect.BAD_ARGUMENT, () -> guard.note(0, 0));
    }

    private static void wrongArguments() {
        StackGuard guard = Expect.with("na");
        refuse(guard, 5);
        for (int number : new int[] {-1, 8, Integer.MIN_VALUE, Integer.MAX_VALUE}) {
            Expect.thrown("check(0, " + number + ")", Expect.NO_ELEMENT, () -> guard.check(0, number));
            Expect.thrown("check(" + number + ", 0)", Expect.NO_ELEMENT, () -> guard.check(number, 0));
            Expect.thrown("allowed(" + number + ")", Expect.NO_ELEMENT, () -> guard.allowed(number));
            Expect.thrown("note(" + number + ", 0)", Expect.BAD_ARGUMENT, () -> guard.note(number, 0));
            Expect.thrown("note(0, " + number + ")", Expect.BAD_ARGUMENT, () -> guard.note(0, number));
        }
        Expect.thrown("allowed(1)", Expect.NO_ELEMENT, () -> guard.allowed(1));
        Expect.thrown("note(0, 2)", Expect.BAD_ARGUMENT, () -> guard.note(0, 2));
        Expect.thrown("note(1, 0)", Expect.BAD_ARGUMENT, () -> guard.note(1, 0));
    }
}
