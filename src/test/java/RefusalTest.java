import java.util.ArrayList;
import java.util.List;

/** Which exception comes first, and that a call that ends by one changes nothing: for each method of the face. */
public final class RefusalTest {
    interface Use {
        Object on(StackGuard guard);
    }

    /** A call that is refused, and by what. */
    private record Refusal(String name, Object due, Use call) {
    }

    private static final int[] FAR = {-2, 8, Integer.MIN_VALUE, Integer.MAX_VALUE};

    public static void main(String[] args) {
        Expect.edge("terms", "a call ends by the first that holds", () -> {
            for (Refusal each : refusals()) {
                Expect.same(each.name, each.due, Expect.outcome(() -> each.call.on(full())));
            }
        });
        Expect.edge("terms", "Such a call changes nothing", () -> {
            for (Refusal each : refusals()) {
                changesNothing(each, texts(), grants(), frames(), contexts(), notes());
            }
        });
        Expect.edge("terms", "(but that check() notes)", () -> {
            Refusal check = new Refusal("check(0, 6)", Expect.BAD_STATE, guard -> guard.check(0, 6));
            changesNothing(check, texts(), grants(), frames(), contexts());
            StackGuard guard = full();
            Object latest = guard.note(0, 0) + " " + guard.note(0, 1);
            Expect.thrown("check(0, 6)", Expect.BAD_STATE, () -> guard.check(0, 6));
            Expect.same("the note", "0 1", guard.note(0, 0) + " " + guard.note(0, 1));
            Expect.same("the one before", latest, guard.note(1, 0) + " " + guard.note(1, 1));
        });
        Expect.finish();
    }

    /** All contexts are filled, all threads are there, source 0 has six grants, thread 1 ten frames, thread 3 none. */
    private static StackGuard full() {
        StackGuard guard = Expect.with("f/a/*:rw", "f/a/b:r", "na.*", "na.b", "*");
        Expect.keep(guard, 6, "h*:2-5");
        for (int slot : new int[] {0, 1, 2, 3, 6, 6}) {
            guard.grant(0, slot);
        }
        guard.grant(1, 2);
        guard.grant(1, 3);
        guard.grant(2, 4);
        guard.enter(0, 1);
        guard.enter(0, 2);
        guard.capture(0);
        guard.spawn(0);
        guard.guard(0, 0, 2);
        guard.enter(0, 3);
        for (int frame = 0; frame < 10; frame++) {
            guard.enter(1, frame % 6);
            if (frame == 5) {
                guard.guard(1, 0, -1);
            }
        }
        guard.spawn(1);
        guard.enter(2, 4);
        guard.guard(2, -1, 3);
        guard.spawn(2);
        Expect.outcome(() -> guard.check(1, 6));
        Expect.outcome(() -> guard.check(2, 2));
        for (int context = 1; context < 8; context++) {
            guard.capture(context % 4);
        }
        guard.type('n');
        guard.type('c');
        return guard;
    }

    private static List<Refusal> refusals() {
        List<Refusal> all = new ArrayList<>();
        addTexts(all);
        addGrants(all);
        addFrames(all);
        addThreads(all);
        addFarNumbers(all);
        return all;
    }

    private static void addTexts(List<Refusal> all) {
        all.add(new Refusal("type(31)", false, guard -> guard.type((char) 31)));
        all.add(new Refusal("type(127)", false, guard -> guard.type((char) 127)));
        all.add(new Refusal("keep(-1)", Expect.NO_ELEMENT, guard -> guard.keep(-1)));
        all.add(new Refusal("written(5, 0), empty", Expect.NO_ELEMENT, guard -> guard.written(5, 0)));
        all.add(new Refusal("takesIn(5, 0), empty", Expect.NO_ELEMENT, guard -> guard.takesIn(5, 0)));
        all.add(new Refusal("takesIn(0, 5), empty", Expect.NO_ELEMENT, guard -> guard.takesIn(0, 5)));
    }

    private static void addGrants(List<Refusal> all) {
        all.add(new Refusal("grant(0, 4), six", Expect.BAD_STATE, guard -> guard.grant(0, 4)));
        all.add(new Refusal("grant(0, 5), empty and six", Expect.NO_ELEMENT, guard -> guard.grant(0, 5)));
        all.add(new Refusal("grant(1, 5), empty", Expect.NO_ELEMENT, guard -> guard.grant(1, 5)));
        all.add(new Refusal("grant(6, 4)", Expect.NO_ELEMENT, guard -> guard.grant(6, 4)));
        all.add(new Refusal("revoke(0, 6)", Expect.BAD_ARGUMENT, guard -> guard.revoke(0, 6)));
        all.add(new Refusal("revoke(1, 2)", Expect.BAD_ARGUMENT, guard -> guard.revoke(1, 2)));
        all.add(new Refusal("revoke(1, -1)", Expect.BAD_ARGUMENT, guard -> guard.revoke(1, -1)));
        all.add(new Refusal("revoke(6, -1), neither", Expect.NO_ELEMENT, guard -> guard.revoke(6, -1)));
        all.add(new Refusal("may(0, 5), empty", Expect.NO_ELEMENT, guard -> guard.may(0, 5)));
    }

    private static void addFrames(List<Refusal> all) {
        all.add(new Refusal("enter(1, 0), ten", Expect.BAD_STATE, guard -> guard.enter(1, 0)));
        all.add(new Refusal("enter(1, 6), neither and ten", Expect.NO_ELEMENT, guard -> guard.enter(1, 6)));
        all.add(new Refusal("leave(3), no frame", Expect.BAD_STATE, guard -> guard.leave(3)));
        all.add(new Refusal("guard(3, 0, 0), no frame", Expect.BAD_STATE, guard -> guarded(guard, 3, 0, 0)));
        all.add(new Refusal("guard(3, -1, -1), no frame", Expect.BAD_STATE, guard -> guarded(guard, 3, -1, -1)));
        all.add(new Refusal("guard(3, 0, 5), empty and no frame", Expect.NO_ELEMENT, guard -> guarded(guard, 3, 0, 5)));
        all.add(new Refusal("guard(3, 8, 0), neither and no frame", Expect.NO_ELEMENT, guard -> guarded(guard, 3, 8, 0)));
        all.add(new Refusal("guard(0, 0, 5), empty", Expect.NO_ELEMENT, guard -> guarded(guard, 0, 0, 5)));
        all.add(new Refusal("guard(0, -1, 5), empty", Expect.NO_ELEMENT, guard -> guarded(guard, 0, -1, 5)));
        all.add(new Refusal("walk(0, 5), empty", Expect.NO_ELEMENT, guard -> guard.walk(0, 5)));
    }

    private static void addThreads(List<Refusal> all) {
        all.add(new Refusal("capture(0), none is empty", Expect.BAD_STATE, guard -> guard.capture(0)));
        all.add(new Refusal("capture(4), neither and none is empty", Expect.NO_ELEMENT, guard -> guard.capture(4)));
        all.add(new Refusal("combine(0, 0)", Expect.BAD_ARGUMENT, guard -> guard.combine(0, 0)));
        all.add(new Refusal("combine(8, 8), neither and the same", Expect.NO_ELEMENT, guard -> guard.combine(8, 8)));
        all.add(new Refusal("combine(-1, -1), neither and the same", Expect.NO_ELEMENT, guard -> guard.combine(-1, -1)));
        all.add(new Refusal("combine(0, 8)", Expect.NO_ELEMENT, guard -> guard.combine(0, 8)));
        all.add(new Refusal("combine(-1, 0)", Expect.NO_ELEMENT, guard -> guard.combine(-1, 0)));
        all.add(new Refusal("spawn(0), all there", Expect.BAD_STATE, guard -> guard.spawn(0)));
        all.add(new Refusal("spawn(4), neither and all there", Expect.NO_ELEMENT, guard -> guard.spawn(4)));
        all.add(new Refusal("end(0)", Expect.BAD_ARGUMENT, guard -> guard.end(0)));
        all.add(new Refusal("check(0, 5), empty", Expect.NO_ELEMENT, guard -> guard.check(0, 5)));
        all.add(new Refusal("check(0, -1)", Expect.NO_ELEMENT, guard -> guard.check(0, -1)));
        all.add(new Refusal("note(2, 0)", Expect.BAD_ARGUMENT, guard -> guard.note(2, 0)));
        all.add(new Refusal("note(0, 2)", Expect.BAD_ARGUMENT, guard -> guard.note(0, 2)));
        all.add(new Refusal("note(-1, 0)", Expect.BAD_ARGUMENT, guard -> guard.note(-1, 0)));
        all.add(new Refusal("note(0, -1)", Expect.BAD_ARGUMENT, guard -> guard.note(0, -1)));
    }

    private static void addFarNumbers(List<Refusal> all) {
        for (int n : FAR) {
            all.add(new Refusal("keep(" + n + ")", Expect.NO_ELEMENT, guard -> guard.keep(n)));
            all.add(new Refusal("written(" + n + ", 0)", Expect.NO_ELEMENT, guard -> guard.written(n, 0)));
            all.add(new Refusal("takesIn(" + n + ", 0)", Expect.NO_ELEMENT, guard -> guard.takesIn(n, 0)));
            all.add(new Refusal("takesIn(0, " + n + ")", Expect.NO_ELEMENT, guard -> guard.takesIn(0, n)));
            all.add(new Refusal("grant(" + n + ", 0)", Expect.NO_ELEMENT, guard -> guard.grant(n, 0)));
            all.add(new Refusal("grant(1, " + n + ")", Expect.NO_ELEMENT, guard -> guard.grant(1, n)));
            all.add(new Refusal("revoke(" + n + ", 0)", Expect.NO_ELEMENT, guard -> guard.revoke(n, 0)));
            all.add(new Refusal("revoke(1, " + n + ")", Expect.BAD_ARGUMENT, guard -> guard.revoke(1, n)));
            all.add(new Refusal("may(" + n + ", 0)", Expect.NO_ELEMENT, guard -> guard.may(n, 0)));
            all.add(new Refusal("may(0, " + n + ")", Expect.NO_ELEMENT, guard -> guard.may(0, n)));
            all.add(new Refusal("enter(" + n + ", 0)", Expect.NO_ELEMENT, guard -> guard.enter(n, 0)));
            all.add(new Refusal("enter(0, " + n + ")", Expect.NO_ELEMENT, guard -> guard.enter(0, n)));
            all.add(new Refusal("leave(" + n + ")", Expect.NO_ELEMENT, guard -> guard.leave(n)));
            all.add(new Refusal("guard(" + n + ", 0, 0)", Expect.NO_ELEMENT, guard -> guarded(guard, n, 0, 0)));
            all.add(new Refusal("guard(0, " + n + ", 0)", Expect.NO_ELEMENT, guard -> guarded(guard, 0, n, 0)));
            all.add(new Refusal("guard(0, 0, " + n + ")", Expect.NO_ELEMENT, guard -> guarded(guard, 0, 0, n)));
            all.add(new Refusal("walk(" + n + ", 0)", Expect.NO_ELEMENT, guard -> guard.walk(n, 0)));
            all.add(new Refusal("walk(0, " + n + ")", Expect.NO_ELEMENT, guard -> guard.walk(0, n)));
            all.add(new Refusal("capture(" + n + ")", Expect.NO_ELEMENT, guard -> guard.capture(n)));
            all.add(new Refusal("combine(" + n + ", 0)", Expect.NO_ELEMENT, guard -> guard.combine(n, 0)));
            all.add(new Refusal("combine(0, " + n + ")", Expect.NO_ELEMENT, guard -> guard.combine(0, n)));
            all.add(new Refusal("spawn(" + n + ")", Expect.NO_ELEMENT, guard -> guard.spawn(n)));
            all.add(new Refusal("end(" + n + ")", Expect.NO_ELEMENT, guard -> guard.end(n)));
            all.add(new Refusal("check(" + n + ", 0)", Expect.NO_ELEMENT, guard -> guard.check(n, 0)));
            all.add(new Refusal("check(0, " + n + ")", Expect.NO_ELEMENT, guard -> guard.check(0, n)));
            all.add(new Refusal("allowed(" + n + ")", Expect.NO_ELEMENT, guard -> guard.allowed(n)));
            all.add(new Refusal("note(" + n + ", 0)", Expect.BAD_ARGUMENT, guard -> guard.note(n, 0)));
            all.add(new Refusal("note(0, " + n + ")", Expect.BAD_ARGUMENT, guard -> guard.note(0, n)));
            all.add(new Refusal("idle(" + n + ")", Expect.NO_ELEMENT, guard -> guard.idle(n)));
        }
    }

    private static Object guarded(StackGuard guard, int thread, int context, int slot) {
        guard.guard(thread, context, slot);
        return "nothing";
    }

    /** Each view is asked of two objects of its own, as asking changes them: one with the refused call, one without. */
    private static void changesNothing(Refusal refusal, Use... views) {
        for (int i = 0; i < views.length; i++) {
            StackGuard refused = full();
            Expect.outcome(() -> refusal.call.on(refused));
            Expect.same("behind " + refusal.name + ", view " + i, views[i].on(full()), views[i].on(refused));
        }
    }

    private static Use texts() {
        return guard -> {
            List<Object> seen = new ArrayList<>();
            for (int slot = 0; slot < 8; slot++) {
                int each = slot;
                seen.add(Expect.outcome(() -> Expect.written(guard, each)));
            }
            seen.add(guard.keep(5));
            seen.add(Expect.outcome(() -> Expect.written(guard, 5)));
            return seen;
        };
    }

    private static Use grants() {
        return guard -> {
            List<Object> seen = new ArrayList<>();
            for (int source = 0; source < 6; source++) {
                Object left = "all";
                while (left != Expect.BAD_ARGUMENT) {
                    int each = source;
                    seen.add(left + " " + guard.idle(source));
                    for (int slot : new int[] {0, 1, 2, 3, 4, 6}) {
                        seen.add(guard.may(source, slot));
                    }
                    left = Expect.outcome(() -> guard.revoke(each, 0));
                }
            }
            return seen;
        };
    }

    private static Use frames() {
        return guard -> {
            List<Object> seen = new ArrayList<>();
            for (int thread = 0; thread < 4; thread++) {
                Object left = "all";
                while (left != Expect.BAD_STATE) {
                    int each = thread;
                    seen.add(left + " " + guard.allowed(thread));
                    for (int slot : new int[] {-1, 2, 3, 6}) {
                        seen.add(guard.walk(thread, slot));
                    }
                    left = Expect.outcome(() -> guard.leave(each));
                }
            }
            return seen;
        };
    }

    private static Use contexts() {
        return guard -> {
            List<Object> seen = new ArrayList<>();
            seen.add(guard.enter(3, 5));
            for (int context = 0; context < 8; context++) {
                int each = context;
                seen.add(Expect.outcome(() -> guarded(guard, 3, each, -1)));
                seen.add(guard.walk(3, -1));
            }
            seen.add(Expect.outcome(() -> guard.capture(3)));
            seen.add(Expect.outcome(() -> guard.spawn(3)));
            return seen;
        };
    }

    private static Use notes() {
        return guard -> {
            List<Object> seen = new ArrayList<>();
            for (int i = 0; i < 7; i++) {
                int each = i;
                seen.add(Expect.outcome(() -> guard.note(each, 0)));
                seen.add(Expect.outcome(() -> guard.note(each, 1)));
            }
            return seen;
        };
    }
}
