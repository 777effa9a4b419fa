/** Promise 5 takesIn: each sentence that names a boundary case, with a test of its own. */
public final class TakesInEdgesTest {
    private static final String[] EACH = {
        "f/-:rwxd", "f/*:r", "f/a:r", "f/a/b/c:d", "h*:0-9", "h*.a:1", "ha:1", "n*", "na.*", "na", "na.b.c",
    };

    public static void main(String[] args) {
        allEdges();
        pathEdges();
        letterAndRangeEdges();
        hostEdges();
        nameEdges();
        slotEdges();
        Expect.finish();
    }

    private static void taken(String p, String... all) {
        for (String q : all) {
            Expect.same(p + " takes in " + q, true, Expect.with(p, q).takesIn(0, 1));
        }
    }

    private static void notTaken(String p, String... all) {
        for (String q : all) {
            Expect.same(p + " takes in " + q, false, Expect.with(p, q).takesIn(0, 1));
        }
    }

    private static void allEdges() {
        Expect.edge("terms", "ALL takes in everything", () -> {
            taken("*", "*");
            taken("*", EACH);
        });
        Expect.edge("terms", "nothing else takes in ALL", () -> {
            for (String p : EACH) {
                notTaken(p, "*");
            }
        });
        Expect.edge("terms", "and otherwise both are of one kind", () -> {
            for (String p : EACH) {
                for (String q : EACH) {
                    if (p.charAt(0) != q.charAt(0)) {
                        notTaken(p, q);
                    }
                }
            }
        });
    }

    private static void pathEdges() {
        Expect.edge("terms", "A path without * and - takes in itself alone.", () -> {
            taken("f/a:r", "f/a:r");
            notTaken("f/a:r", "f/b:r", "f/a/b:r", "f/a/*:r", "f/a/-:r", "f/*:r", "f/-:r", "f/a/a:r");
            taken("f/a/b/c:r", "f/a/b/c:r");
            notTaken("f/a/b/c:r", "f/a/b:r", "f/c/b/a:r", "f/a/b/d:r", "f/b/b/c:r", "f/a/b/*:r", "f/a/b/-:r");
        });
        Expect.edge("terms", "One with /* takes in the same one, and each without * and - that has the same labels ahead"
                + " and just one more.", () -> {
            taken("f/*:r", "f/*:r", "f/a:r", "f/i:r");
            notTaken("f/*:r", "f/-:r", "f/a/b:r", "f/a/*:r", "f/a/-:r", "f/a/b/c:r");
            taken("f/a/*:r", "f/a/*:r", "f/a/a:r", "f/a/i:r");
            notTaken("f/a/*:r", "f/a:r", "f/*:r", "f/-:r", "f/a/-:r", "f/b/*:r", "f/b/a:r", "f/a/b/c:r", "f/a/b/*:r");
            taken("f/a/b/*:r", "f/a/b/*:r", "f/a/b/c:r");
            notTaken("f/a/b/*:r", "f/a/b:r", "f/a/b/-:r", "f/b/a/c:r", "f/a/c/b:r", "f/a/*:r", "f/c/b/a:r");
        });
        Expect.edge("terms", "One with /- takes in each that has all its labels ahead (in order), and behind them at least"
                + " one more label, * or - .", () -> {
            taken("f/-:r", "f/-:r", "f/*:r", "f/a:r", "f/a/*:r", "f/a/-:r", "f/a/b/c:r", "f/a/b/-:r");
            taken("f/a/-:r", "f/a/-:r", "f/a/*:r", "f/a/b:r", "f/a/b/c:r", "f/a/b/*:r", "f/a/b/-:r");
            notTaken("f/a/-:r", "f/a:r", "f/-:r", "f/*:r", "f/b/-:r", "f/b:r", "f/b/a:r", "f/b/a/c:r");
            taken("f/a/b/-:r", "f/a/b/-:r", "f/a/b/*:r", "f/a/b/c:r");
            notTaken("f/a/b/-:r", "f/a/b:r", "f/a:r", "f/a/-:r", "f/a/*:r", "f/b/a/-:r", "f/b/a/c:r", "f/a/c/b:r");
        });
    }

    private static void letterAndRangeEdges() {
        Expect.edge("terms", "p's path takes in q's, and p has all of q's letters", () -> {
            taken("f/a:rwxd", "f/a:r", "f/a:d", "f/a:rwxd");
            taken("f/a:rd", "f/a:dr", "f/a:r", "f/a:d");
            notTaken("f/a:rd", "f/a:w", "f/a:rw", "f/a:rwd", "f/a:rwxd");
            notTaken("f/a:wxd", "f/a:rwxd", "f/a:r");
            notTaken("f/a:rwx", "f/a:rwxd", "f/a:d");
            notTaken("f/a:rwxd", "f/b:r");
            notTaken("f/*:r", "f/*:rw", "f/a:w");
            notTaken("f/-:r", "f/-:rw", "f/a:w");
        });
        Expect.edge("terms", "p's range has all of q's", () -> {
            taken("ha:3-6", "ha:3-6", "ha:3", "ha:6", "ha:4-5", "ha:3-5", "ha:4-6");
            notTaken("ha:3-6", "ha:2", "ha:7", "ha:2-6", "ha:3-7", "ha:2-7", "ha:0", "ha:9", "ha:3-", "ha:-6");
            taken("ha:0-9", "ha:-0", "ha:9-", "ha:0-", "ha:-9");
            taken("ha:9-", "ha:9");
            notTaken("ha:9-", "ha:8-", "ha:8");
            taken("ha:-0", "ha:0");
            notTaken("ha:-0", "ha:-1", "ha:1");
            notTaken("h*:5", "ha:5-6", "ha:4-5");
            notTaken("h*.a:5", "hb.a:6");
        });
    }

    private static void hostEdges() {
        Expect.edge("terms", "* takes in every host; one without * itself alone", () -> {
            taken("h*:1", "h*:1", "ha:1", "ha.b:1", "ha.b.c:1", "h*.a:1", "h*.a.b:1");
            taken("ha:1", "ha:1");
            notTaken("ha:1", "hb:1", "ha.a:1", "h*:1", "h*.a:1", "hb.a:1", "ha.b:1");
            taken("ha.b.c:1", "ha.b.c:1");
            notTaken("ha.b.c:1", "hb.c:1", "ha.b:1", "hc.b.a:1", "hd.b.c:1", "ha.b.d:1", "h*.b.c:1");
        });
        Expect.edge("terms", "*. and labels each host that ends by these labels", () -> {
            taken("h*.a:1", "h*.a:1", "hb.a:1", "ha.a:1", "hc.b.a:1", "h*.b.a:1");
            taken("h*.b.a:1", "h*.b.a:1", "hc.b.a:1");
            notTaken("h*.a:1", "hb:1", "ha.b:1", "h*.b:1", "h*.a.b:1", "ha.a.b:1");
            notTaken("h*.b.a:1", "hc.a.b:1", "h*.a.b:1", "hc.b.b:1", "ha.a.a:1");
        });
        Expect.edge("terms", "and has at least one more label, or *, ahead of that.", () -> {
            notTaken("h*.a:1", "ha:1", "h*:1");
            notTaken("h*.b.a:1", "hb.a:1", "h*.a:1", "ha:1", "h*:1");
        });
    }

    private static void nameEdges() {
        Expect.edge("terms", "* takes in every name; one without * itself alone", () -> {
            taken("n*", "n*", "na", "na.b", "na.b.c", "na.*", "na.b.*");
            taken("na", "na");
            notTaken("na", "nb", "na.a", "n*", "na.*", "nb.a", "na.b.c");
            taken("na.b.c", "na.b.c");
            notTaken("na.b.c", "na.b", "nb.c", "nc.b.a", "na.b.d", "nd.b.c", "na.b.*");
        });
        Expect.edge("terms", "labels and .* each name that begins by these labels", () -> {
            taken("na.*", "na.*", "na.b", "na.a", "na.b.c", "na.b.*");
            taken("na.b.*", "na.b.*", "na.b.c");
            notTaken("na.*", "nb", "nb.a", "nb.*", "nb.a.*", "nb.a.a");
            notTaken("na.b.*", "nb.a.c", "nb.a.*", "na.c.b", "nb.b.b");
        });
        Expect.edge("terms", "and has at least one more label, or *, behind them.", () -> {
            notTaken("na.*", "na", "n*");
            notTaken("na.b.*", "na.b", "na.*", "na", "n*");
        });
    }

    private static void slotEdges() {
        Expect.edge("5 takesIn", "Whether the permission in slot p takes in the one in slot q.", () -> {
            StackGuard guard = Expect.with("*", "na", "na.*", "nb", "n*", "f/a:r", "h*:1", "na.b");
            for (int slot = 0; slot < 8; slot++) {
                Expect.same("slot " + slot + " itself", true, guard.takesIn(slot, slot));
                Expect.same("the first slot and slot " + slot, true, guard.takesIn(0, slot));
                Expect.same("slot " + slot + " and the last slot", "10101001".charAt(slot) == '1', guard.takesIn(slot, 7));
                Expect.same("the last slot and slot " + slot, slot == 7, guard.takesIn(7, slot));
            }
        });
        Expect.edge("5 takesIn", "boolean takesIn(int p, int q) throws java.util.NoSuchElementException", () -> {
            StackGuard guard = Expect.with("*");
            for (int slot : new int[] {-1, 1, 7, 8, Integer.MIN_VALUE, Integer.MAX_VALUE}) {
                Expect.thrown("p " + slot, Expect.NO_ELEMENT, () -> guard.takesIn(slot, 0));
                Expect.thrown("q " + slot, Expect.NO_ELEMENT, () -> guard.takesIn(0, slot));
                Expect.thrown("both " + slot, Expect.NO_ELEMENT, () -> guard.takesIn(slot, slot));
            }
        });
    }
}
