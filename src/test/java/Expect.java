import java.util.Objects;

/** What the tests share: counting wrong answers, and short ways to call the class. */
final class Expect {
    static final Class<? extends RuntimeException> NO_ELEMENT = java.util.NoSuchElementException.class;
    static final Class<? extends RuntimeException> BAD_ARGUMENT = IllegalArgumentException.class;
    static final Class<? extends RuntimeException> BAD_STATE = IllegalStateException.class;

    interface Call {
        Object answer();
    }

    interface Action {
        void run();
    }

    private static int wrong = 0;
    /** The sentence whose test is running, if it is one. */
    private static String place = "";

    private Expect() {
    }

    static void same(String what, Object due, Object got) {
        if (!Objects.equals(due, got)) {
            wrong++;
            System.out.println(place + what + ": answered " + got + ", due is " + due);
        }
    }

    /** The test of one sentence of the document that names a boundary case. */
    static void edge(String where, String sentence, Action test) {
        place = "[" + where + ": \"" + sentence + "\"] ";
        same("the test's own calls", "no exception", outcome(() -> {
            test.run();
            return "no exception";
        }));
        place = "";
    }

    static void thrown(String what, Class<? extends RuntimeException> due, Call call) {
        same(what, due, outcome(call));
    }

    static void thrownBy(String what, Class<? extends RuntimeException> due, Action action) {
        thrown(what, due, () -> {
            action.run();
            return "nothing";
        });
    }

    /** What a call answers, or the class of what it throws. */
    static Object outcome(Call call) {
        try {
            return call.answer();
        } catch (RuntimeException e) {
            return e.getClass();
        }
    }

    static int keep(StackGuard guard, int slot, String text) {
        for (int i = 0; i < text.length(); i++) {
            same("type '" + text.charAt(i) + "' of " + text, true, guard.type(text.charAt(i)));
        }
        return guard.keep(slot);
    }

    /** Each of the texts is a permission. */
    static void kept(String... texts) {
        for (String text : texts) {
            same("keep of '" + text + "'", 0, keep(new StackGuard(), 0, text));
        }
    }

    static void fault(String text, int due) {
        same("keep of '" + text + "'", 1 + due, keep(new StackGuard(), 0, text));
    }

    /** A new object with these permissions in its slots from 0 on. */
    static StackGuard with(String... texts) {
        StackGuard guard = new StackGuard();
        for (int i = 0; i < texts.length; i++) {
            same("keep " + texts[i], 0, keep(guard, i, texts[i]));
        }
        return guard;
    }

    static String written(StackGuard guard, int slot) {
        StringBuilder text = new StringBuilder();
        for (int k = 0; guard.written(slot, k) != StackGuard.NONE; k++) {
            text.append((char) guard.written(slot, k));
        }
        return text.toString();
    }

    static void finish() {
        System.exit(wrong == 0 ? 0 : 1);
    }
}
