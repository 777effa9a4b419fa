/** Promises 6 grant, 7 revoke, 8 may, 20 idle. */
public final class GrantTest {
    private static final int[] NO_SOURCES = {-1, 6, Integer.MIN_VALUE, Integer.MAX_VALUE};
    private static final int[] NO_SLOTS = {-1, 7, 8, Integer.MIN_VALUE, Integer.MAX_VALUE};

    public static void main(String[] args) {
        grantsAreCountedUpToSix();
        grantIsWhatTheSlotHeld();
        revokeMovesUp();
        mayByOneGrant();
        mayLetterByLetter();
        lettersOnlyForFiles();
        idleCountsTakenIn();
        wrongSourcesAndSlots();
        Expect.finish();
    }

    private static void grantsAreCountedUpToSix() {
        StackGuard guard = Expect.with("na");
        for (int i = 1; i <= 6; i++) {
            Expect.same("grant " + i, i, guard.grant(5, 0));
        }
        Expect.thrown("grant 7", Expect.BAD_STATE, () -> guard.grant(5, 0));
        Expect.thrown("an empty slot comes first", Expect.NO_ELEMENT, () -> guard.grant(5, 1));
        Expect.same("the refused one changed nothing", 5, guard.revoke(5, 5));
        Expect.same("another source", 1, guard.grant(0, 0));
    }

    private static void grantIsWhatTheSlotHeld() {
        StackGuard guard = Expect.with("na", "na");
        guard.grant(0, 0);
        Expect.keep(guard, 0, "nb");
        Expect.same("what was granted", true, guard.may(0, 1));
        Expect.same("what the slot has now", false, guard.may(0, 0));
    }

    private static void revokeMovesUp() {
        StackGuard guard = Expect.with("na", "nb", "nc");
        for (int slot = 0; slot < 3; slot++) {
            guard.grant(1, slot);
        }
        Expect.same("revoke the middle one", 2, guard.revoke(1, 1));
        Expect.same("the middle one is gone", false, guard.may(1, 1));
        Expect.same("others stay", true, guard.may(1, 0) && guard.may(1, 2));
        Expect.thrown("no third one", Expect.BAD_ARGUMENT, () -> guard.revoke(1, 2));
        Expect.thrown("none below 0", Expect.BAD_ARGUMENT, () -> guard.revoke(1, -1));
        Expect.thrown("none far off", Expect.BAD_ARGUMENT, () -> guard.revoke(1, Integer.MAX_VALUE));
        Expect.thrown("none far below", Expect.BAD_ARGUMENT, () -> guard.revoke(1, Integer.MIN_VALUE));
        Expect.same("revoke the one that moved up", 1, guard.revoke(1, 1));
        Expect.same("it was the last one", false, guard.may(1, 2));
        Expect.same("the first one stays", true, guard.may(1, 0));
        Expect.same("revoke the first one", 0, guard.revoke(1, 0));
        Expect.same("nothing left", false, guard.may(1, 0));
    }

    private static void mayByOneGrant() {
        StackGuard guard = Expect.with("n*", "na.b", "h*.a:2-5", "hb.a:3", "hb.a:3-6", "*");
        guard.grant(2, 0);
        guard.grant(2, 2);
        boolean[] due = {true, true, true, true, false, false};
        for (int slot = 0; slot < 6; slot++) {
            Expect.same("may(2, " + slot + ")", due[slot], guard.may(2, slot));
            Expect.same("may(1, " + slot + ")", false, guard.may(1, slot));
        }
        guard.grant(1, 5);
        for (int slot = 0; slot < 6; slot++) {
            Expect.same("by ALL: may(1, " + slot + ")", true, guard.may(1, slot));
        }
    }

    private static void mayLetterByLetter() {
        StackGuard guard = Expect.with("f/a/*:r", "f/-:wx", "f/a/b:xrw", "f/a/b:d", "f/c:rw", "f/a/b:rwxd");
        guard.grant(0, 0);
        guard.grant(0, 1);
        Expect.same("by two grants", true, guard.may(0, 2));
        Expect.same("a letter that none has", false, guard.may(0, 3));
        Expect.same("a letter of another path", false, guard.may(0, 4));
        Expect.same("one letter of four missing", false, guard.may(0, 5));
        guard.grant(0, 3);
        Expect.same("by three grants", true, guard.may(0, 5));
        guard.revoke(0, 0);
        Expect.same("without the first one", false, guard.may(0, 5));
        Expect.same("one alone", true, guard.may(0, 3));
    }

    private static void lettersOnlyForFiles() {
        StackGuard guard = Expect.with("ha:1-4", "ha:5-8", "ha:1-8", "ha:4");
        guard.grant(3, 0);
        guard.grant(3, 1);
        Expect.same("a range is not put together", false, guard.may(3, 2));
        Expect.same("a digit of one", true, guard.may(3, 3));
    }

    private static void idleCountsTakenIn() {
        StackGuard guard = Expect.with("f/a:r", "f/*:rw", "na", "*", "f/a:w", "f/a:rw");
        guard.grant(4, 0);
        Expect.same("one alone", 0f, guard.idle(4));
        guard.grant(4, 1);
        Expect.same("one of two", 0.5f, guard.idle(4));
        guard.grant(4, 2);
        Expect.same("one of three", 1f / 3f, guard.idle(4));
        guard.grant(4, 2);
        Expect.same("of two that are alike both", 0.75f, guard.idle(4));
        guard.grant(4, 3);
        Expect.same("all but ALL", 0.8f, guard.idle(4));
        guard.grant(4, 3);
        Expect.same("ALL twice", 1f, guard.idle(4));
        guard.grant(5, 0);
        guard.grant(5, 4);
        guard.grant(5, 5);
        Expect.same("two of three", 2f / 3f, guard.idle(5));
        guard.revoke(5, 2);
        Expect.same("neither of two has the other", 0f, guard.idle(5));
        guard.grant(3, 3);
        guard.grant(3, 2);
        Expect.same("the first one takes in the second", 0.5f, guard.idle(3));
        guard.grant(2, 5);
        guard.grant(2, 0);
        guard.grant(2, 4);
        Expect.same("the first one takes in both", 2f / 3f, guard.idle(2));
        Expect.same("no grants", 0f, guard.idle(0));
    }

    private static void wrongSourcesAndSlots() {
        StackGuard guard = Expect.with("*");
        for (int source : NO_SOURCES) {
            Expect.thrown("grant(" + source + ", 0)", Expect.NO_ELEMENT, () -> guard.grant(source, 0));
            Expect.thrown("revoke(" + source + ", 0)", Expect.NO_ELEMENT, () -> guard.revoke(source, 0));
            Expect.thrown("may(" + source + ", 0)", Expect.NO_ELEMENT, () -> guard.may(source, 0));
            Expect.thrown("idle(" + source + ")", Expect.NO_ELEMENT, () -> guard.idle(source));
        }
        for (int slot : NO_SLOTS) {
            Expect.thrown("grant(0, " + slot + ")", Expect.NO_ELEMENT, () -> guard.grant(0, slot));
            Expect.thrown("may(0, " + slot + ")", Expect.NO_ELEMENT, () -> guard.may(0, slot));
        }
    }
}
