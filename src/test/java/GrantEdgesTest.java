/** Promises 6 grant, 7 revoke, 8 may, 20 idle: each sentence that names a boundary case, with a test of its own. */
public final class GrantEdgesTest {
    private static final int[] NO_SOURCES = {-1, 6, -6, 32, Integer.MIN_VALUE, Integer.MAX_VALUE};
    private static final int[] NO_SLOTS = {-1, 7, 8, Integer.MIN_VALUE, Integer.MAX_VALUE};

    public static void main(String[] args) {
        sourceEdges();
        grantEdges();
        revokeEdges();
        mayEdges();
        mayByLettersEdges();
        idleEdges();
        idleCountEdges();
        Expect.finish();
    }

    /** A new object with these permissions in its slots, all of them granted to source 0. */
    private static StackGuard granted(String... texts) {
        StackGuard guard = Expect.with(texts);
        for (int slot = 0; slot < texts.length; slot++) {
            Expect.same("grant " + texts[slot], slot + 1, guard.grant(0, slot));
        }
        return guard;
    }

    private static void idle(float due, String... texts) {
        Expect.same("idle of " + String.join(" ", texts), due, granted(texts).idle(0));
    }

    private static void sourceEdges() {
        Expect.edge("terms", "SOURCES 0 .. 5 have GRANTS", () -> {
            StackGuard guard = Expect.with("na");
            for (int source = 0; source < 6; source++) {
                Expect.same("may before", false, guard.may(source, 0));
                Expect.same("grant", 1, guard.grant(source, 0));
                Expect.same("may", true, guard.may(source, 0));
            }
            for (int source = 0; source < 6; source++) {
                Expect.same("revoke", 0, guard.revoke(source, 0));
                Expect.same("may no more", false, guard.may(source, 0));
                Expect.same("idle", 0f, guard.idle(source));
            }
            for (int source : NO_SOURCES) {
                Expect.thrown("grant to " + source, Expect.NO_ELEMENT, () -> guard.grant(source, 0));
                Expect.thrown("revoke from " + source, Expect.NO_ELEMENT, () -> guard.revoke(source, 0));
                Expect.thrown("may " + source, Expect.NO_ELEMENT, () -> guard.may(source, 0));
                Expect.thrown("idle of " + source, Expect.NO_ELEMENT, () -> guard.idle(source));
            }
        });
        Expect.edge("1 a new object", "nothing is granted", () -> {
            StackGuard guard = Expect.with("na", "*");
            for (int source = 0; source < 6; source++) {
                int each = source;
                Expect.same("may", false, guard.may(source, 0) || guard.may(source, 1));
                Expect.thrown("revoke", Expect.BAD_ARGUMENT, () -> guard.revoke(each, 0));
                Expect.same("idle", 0f, guard.idle(source));
            }
        });
    }

    private static void grantEdges() {
        Expect.edge("terms", "a list of at most six permissions each", () -> {
            StackGuard guard = Expect.with("na");
            for (int count = 1; count <= 6; count++) {
                for (int source = 0; source < 6; source++) {
                    Expect.same("grants of source " + source, count, guard.grant(source, 0));
                }
            }
            for (int source = 0; source < 6; source++) {
                int full = source;
                Expect.thrown("source " + source + " is full", Expect.BAD_STATE, () -> guard.grant(full, 0));
            }
        });
        Expect.edge("6 grant", "A source is granted the permission that is in a slot now", () -> {
            StackGuard guard = granted("na", "na");
            Expect.keep(guard, 0, "nb");
            Expect.keep(guard, 1, "nc");
            Expect.same("what is there now", false, guard.may(0, 0) || guard.may(0, 1));
            Expect.same("a fault", 1, Expect.keep(guard, 1, "~"));
            Expect.same("the slot that had a fault is as it was", 3, guard.grant(0, 1));
            Expect.same("so it is granted", true, guard.may(0, 1));
        });
        Expect.edge("6 grant", "behind its other grants: how many it has", () -> {
            StackGuard guard = granted("na", "nb", "nc");
            Expect.same("one that it has is a grant of its own", 4, guard.grant(0, 0));
            Expect.same("the first one goes", 3, guard.revoke(0, 0));
            Expect.same("the last one is like it", true, guard.may(0, 0));
            Expect.same("the last one goes", 2, guard.revoke(0, 2));
            Expect.same("it was behind the others", false, guard.may(0, 0));
            Expect.same("the first one now", 1, guard.revoke(0, 0));
            Expect.same("is the second one that was granted", false, guard.may(0, 1));
            Expect.same("and the third one is left", true, guard.may(0, 2));
        });
        Expect.edge("6 grant", "IllegalStateException: it has six.", () -> {
            StackGuard guard = granted("na", "nb", "nc", "nd", "ne", "nf");
            Expect.keep(guard, 6, "n*");
            Expect.thrown("one more", Expect.BAD_STATE, () -> guard.grant(0, 6));
            Expect.thrown("one that it has", Expect.BAD_STATE, () -> guard.grant(0, 0));
            Expect.same("what was refused is not granted", false, guard.may(0, 6));
            Expect.same("the six are", true, guard.may(0, 0) && guard.may(0, 5));
            Expect.same("another source has a place", 1, guard.grant(1, 6));
            Expect.same("one goes", 5, guard.revoke(0, 5));
            Expect.same("five: there is a place", 6, guard.grant(0, 6));
            Expect.thrown("six again", Expect.BAD_STATE, () -> guard.grant(0, 6));
        });
        Expect.edge("6 grant", "int grant(int source, int slot) throws java.util.NoSuchElementException", () -> {
            StackGuard guard = granted("na", "nb", "nc", "nd", "ne", "nf");
            for (int slot : NO_SLOTS) {
                Expect.thrown("slot " + slot + ", source full", Expect.NO_ELEMENT, () -> guard.grant(0, slot));
                Expect.thrown("slot " + slot, Expect.NO_ELEMENT, () -> guard.grant(1, slot));
            }
            Expect.same("nothing was granted by that", 1, guard.grant(1, 0));
        });
    }

    private static void revokeEdges() {
        Expect.edge("7 revoke", "Grant i (from 0) of a source is taken back; those behind it move up", () -> {
            for (int i = 0; i < 6; i++) {
                StackGuard guard = granted("na", "nb", "nc", "nd", "ne", "nf");
                guard.revoke(0, i);
                for (int slot = 0; slot < 6; slot++) {
                    Expect.same("may " + slot + " without " + i, slot != i, guard.may(0, slot));
                }
                for (int slot = 0; slot < 6; slot++) {
                    if (slot != i) {
                        guard.revoke(0, 0);
                        Expect.same("the first one is " + slot + " now", false, guard.may(0, slot));
                    }
                }
            }
        });
        Expect.edge("7 revoke", "how many are left", () -> {
            StackGuard guard = granted("na", "na", "na", "na", "na", "na");
            for (int left = 5; left >= 0; left--) {
                Expect.same("of alike ones one goes", left, guard.revoke(0, left));
                Expect.same("may", left > 0, guard.may(0, 0));
            }
            Expect.same("granted anew", 1, guard.grant(0, 0));
        });
        Expect.edge("7 revoke", "IllegalArgumentException: there is no such grant.", () -> {
            StackGuard guard = granted("na", "nb");
            for (int i : new int[] {2, 3, 5, 6, -1, -2, Integer.MIN_VALUE, Integer.MAX_VALUE}) {
                Expect.thrown("grant " + i + " of two", Expect.BAD_ARGUMENT, () -> guard.revoke(0, i));
                Expect.thrown("grant " + i + " of none", Expect.BAD_ARGUMENT, () -> guard.revoke(1, i));
            }
            Expect.thrown("the first one of none", Expect.BAD_ARGUMENT, () -> guard.revoke(1, 0));
            Expect.same("both are there", true, guard.may(0, 0) && guard.may(0, 1));
            Expect.same("the last one", 1, guard.revoke(0, 1));
            Expect.thrown("the last one again", Expect.BAD_ARGUMENT, () -> guard.revoke(0, 1));
            Expect.same("the first one", 0, guard.revoke(0, 0));
            Expect.thrown("the first one again", Expect.BAD_ARGUMENT, () -> guard.revoke(0, 0));
        });
        Expect.edge("7 revoke", "int revoke(int source, int i) throws java.util.NoSuchElementException", () -> {
            StackGuard guard = granted("na");
            for (int source : NO_SOURCES) {
                Expect.thrown("no grant either", Expect.NO_ELEMENT, () -> guard.revoke(source, -1));
            }
        });
    }

    private static void mayEdges() {
        Expect.edge("terms", "A source MAY q if one of its grants takes in q", () -> {
            StackGuard guard = granted("na", "hb:1", "f/c:r", "nd", "he:2", "f/f:w");
            for (int slot = 0; slot < 6; slot++) {
                Expect.same("by grant " + slot, true, guard.may(0, slot));
                Expect.same("without grants", false, guard.may(5, slot));
            }
            Expect.keep(guard, 6, "*");
            Expect.same("ALL by none of them", false, guard.may(0, 6));
            Expect.keep(guard, 6, "n*");
            Expect.same("one that takes in a grant", false, guard.may(0, 6));
            Expect.keep(guard, 6, "he:1");
            Expect.same("one half of one, one half of another", false, guard.may(0, 6));
        });
        Expect.edge("8 may", "Whether a source may what is in a slot.", () -> {
            StackGuard guard = Expect.with("na", "*", "na", "na", "na", "na", "na", "f/-:rwxd");
            guard.grant(5, 1);
            guard.grant(0, 7);
            Expect.same("the last source, the first slot", true, guard.may(5, 0));
            Expect.same("the last source, the last slot", true, guard.may(5, 7));
            Expect.same("the first source, the last slot", true, guard.may(0, 7));
            Expect.same("the first source, the first slot", false, guard.may(0, 0));
        });
        Expect.edge("8 may", "boolean may(int source, int slot) throws java.util.NoSuchElementException", () -> {
            StackGuard guard = granted("*");
            for (int slot : NO_SLOTS) {
                Expect.thrown("slot " + slot, Expect.NO_ELEMENT, () -> guard.may(0, slot));
                Expect.thrown("slot " + slot + ", no grants", Expect.NO_ELEMENT, () -> guard.may(1, slot));
                Expect.thrown("slot " + slot + ", no source", Expect.NO_ELEMENT, () -> guard.may(6, slot));
            }
        });
    }

    private static void mayByLetters(boolean due, String q, String... grants) {
        StackGuard guard = granted(grants);
        Expect.keep(guard, 7, q);
        Expect.same(q + " by " + String.join(" ", grants), due, guard.may(0, 7));
    }

    private static void mayByLettersEdges() {
        Expect.edge("terms", "for each of its letters alone one of the grants does", () -> {
            mayByLetters(true, "f/a:rwxd", "f/a:r", "f/a:w", "f/a:x", "f/a:d");
            mayByLetters(true, "f/a:rwxd", "f/a:d", "f/*:xw", "f/-:rx");
            mayByLetters(true, "f/a/b:rw", "nc", "f/a/*:w", "hd:1", "f/a/b:rx");
            mayByLetters(false, "f/a:rwxd", "f/a:r", "f/a:w", "f/a:x");
            mayByLetters(false, "f/a:rwxd", "f/a:w", "f/a:x", "f/a:d", "f/b:r");
            mayByLetters(false, "f/a:rw", "f/a:r", "f/a/-:w", "f/a/*:w", "f/b:w");
            mayByLetters(true, "f/a/-:rw", "f/a/-:r", "f/-:w");
            mayByLetters(false, "f/a/-:rw", "f/a/-:r", "f/a/*:w");
            mayByLetters(true, "f/a/*:rw", "f/a/-:r", "f/a/*:w");
            mayByLetters(false, "f/a:w");
        });
        Expect.edge("terms", "or if q is a FILE", () -> {
            mayByLetters(false, "ha:1-2", "ha:1", "ha:2");
            mayByLetters(false, "ha:0-9", "ha:0-8", "ha:1-9");
            mayByLetters(false, "n*", "na", "nb", "na.*", "nb.*");
            mayByLetters(false, "*", "f/-:rwxd", "h*:0-9", "n*");
        });
    }

    private static void idleEdges() {
        Expect.edge("20 idle", "0f if there are none", () -> {
            StackGuard guard = granted("na", "na");
            Expect.same("never any", 0f, guard.idle(5));
            guard.revoke(0, 0);
            guard.revoke(0, 0);
            Expect.same("none any more", 0f, guard.idle(0));
        });
        Expect.edge("20 idle", "float idle(int source) throws java.util.NoSuchElementException", () -> {
            StackGuard guard = granted("na", "na");
            for (int source : NO_SOURCES) {
                Expect.thrown("source " + source, Expect.NO_ELEMENT, () -> guard.idle(source));
            }
        });
    }

    private static void idleCountEdges() {
        Expect.edge("20 idle", "the part of its grants that others of its grants take in", () -> {
            idle(0f, "na");
            idle(0f, "*");
            idle(0f, "na", "nb", "nc", "nd", "ne", "nf");
            idle(0f, "f/a:rw", "f/a:rx", "f/a:wx");
            idle(0f, "ha:1-5", "ha:2-6");
        });
        Expect.edge("20 idle", "how many are taken in by another one", () -> {
            idle(1f / 2f, "na", "n*");
            idle(1f / 2f, "n*", "na");
            idle(2f / 3f, "na.b.c", "na.*", "n*");
            idle(2f / 3f, "n*", "na.*", "na.b.c");
            idle(1f / 3f, "na", "n*", "f/a:r");
            idle(0f, "f/a:r", "f/a:w", "f/*:x");
        });
        Expect.edge("20 idle", "(of two that take in each other both)", () -> {
            idle(1f, "na", "na");
            idle(1f, "f/a:rw", "f/a:wr");
            idle(1f, "ha:9", "ha:9-");
            idle(1f, "*", "*");
            idle(2f / 3f, "na", "nb", "na");
            idle(1f, "na", "nb", "na", "nb");
        });
        Expect.edge("20 idle", "divided by how many there are", () -> {
            idle(5f / 6f, "*", "na", "nb", "nc", "nd", "ne");
            idle(5f / 6f, "na", "nb", "nc", "nd", "ne", "*");
            idle(1f / 6f, "na", "nb", "nc", "nd", "f/a:r", "f/*:r");
            idle(1f, "na", "na", "na", "na", "na", "na");
            idle(2f / 5f, "na", "nb", "nc", "nd", "na");
            idle(3f / 5f, "na", "nb", "na", "nd", "na");
        });
    }
}
