import java.util.ArrayList;
import java.util.HashSet;
import java.util.List;
import java.util.Set;

/** Promises 2 type, 3 keep, 4 written: the pad, what is a permission, its fault, and how it is written. */
public final class PermissionTextTest {
    private static final String[] LABELS = {"a", "d", "i"};
    /** Every kind of character, but no label that is not among LABELS. */
    private static final String ALPHABET = "adij/*-:.rwx013489n ~A\"";

    public static void main(String[] args) {
        padTakesSixteenPrintableCharacters();
        keepEmptiesThePad();
        faultLeavesTheSlot();
        noSuchSlotLeavesThePad();
        someFaults();
        everyLabelAndDigit();
        everyTextOfTheGrammar();
        someWritten();
        writtenOutside();
        Expect.finish();
    }

    private static void padTakesSixteenPrintableCharacters() {
        for (int c = 0; c < 70000; c += c < 300 ? 1 : 997) {
            Expect.same("type " + c, (char) c >= ' ' && (char) c <= '~', new StackGuard().type((char) c));
        }
        Expect.same("type 65535", false, new StackGuard().type((char) 65535));
        StackGuard guard = new StackGuard();
        for (int i = 0; i < 16; i++) {
            Expect.same("refused without a place", false, guard.type((char) 31));
            Expect.same("type number " + i, true, guard.type(' '));
        }
        Expect.same("type number 16", false, guard.type('*'));
        Expect.same("refused at the full pad", false, guard.type((char) 127));
        Expect.same("keep of blanks", 1, guard.keep(0));
        Expect.same("type after keep", true, guard.type('*'));
        Expect.same("keep after keep", 0, guard.keep(0));
    }

    private static void keepEmptiesThePad() {
        StackGuard guard = Expect.with("na");
        Expect.same("pad empty after a permission", 1, guard.keep(1));
        Expect.same("fault", 3, Expect.keep(guard, 1, "nax"));
        Expect.same("pad empty after a fault", 1, guard.keep(1));
    }

    private static void faultLeavesTheSlot() {
        StackGuard guard = Expect.with("na");
        Expect.same("fault", 2, Expect.keep(guard, 0, "n"));
        Expect.same("slot after a fault", "na", Expect.written(guard, 0));
        Expect.same("keep anew", 0, Expect.keep(guard, 0, "nb.c"));
        Expect.same("slot kept anew", "nb.c", Expect.written(guard, 0));
    }

    private static void noSuchSlotLeavesThePad() {
        StackGuard guard = new StackGuard();
        guard.type('*');
        for (int slot : new int[] {-1, 8, Integer.MIN_VALUE, Integer.MAX_VALUE}) {
            Expect.thrown("keep(" + slot + ")", Expect.NO_ELEMENT, () -> guard.keep(slot));
        }
        Expect.same("pad stayed", 0, guard.keep(7));
        Expect.same("last slot", "*", Expect.written(guard, 7));
    }

    private static void someFaults() {
        Expect.fault("", 0);
        Expect.fault("* ", 1);
        Expect.fault(" *", 0);
        Expect.fault("f/a/b/c/", 7);
        Expect.fault("f/a/b/*:", 8);
        Expect.fault("f/a/b/-/", 7);
        Expect.fault("f/*/a:r", 3);
        Expect.fault("f/-:rwxdr", 8);
        Expect.fault("f/a:rwr", 6);
        Expect.fault("f//a:r", 2);
        Expect.fault("f/a/:r", 4);
        Expect.fault("h*.*:1", 3);
        Expect.fault("h*a:1", 2);
        Expect.fault("ha.*:1", 3);
        Expect.fault("ha.b.c.d:1", 6);
        Expect.fault("h*.a.b.c:1", 6);
        Expect.fault("ha:", 3);
        Expect.fault("ha:-", 4);
        Expect.fault("ha:--", 4);
        Expect.fault("ha:-1-", 5);
        Expect.fault("ha:5-4", 5);
        Expect.fault("ha:5-55", 6);
        Expect.fault("ha:5--", 5);
        Expect.fault("ha:-/", 4);
        Expect.fault("n", 1);
        Expect.fault("n*.a", 2);
        Expect.fault("na.b.c.*", 6);
        Expect.fault("na.b.*.c", 6);
        Expect.fault("na:", 2);
        Expect.fault("nab", 2);
    }

    private static void everyLabelAndDigit() {
        for (char c = ' '; c <= '~'; c++) {
            boolean label = c >= 'a' && c <= 'i';
            Expect.same("n" + c, label || c == '*' ? 0 : 2, Expect.keep(new StackGuard(), 0, "n" + c));
            Expect.same("f/" + c + ":r", label || c == '*' || c == '-' ? 0 : 3,
                    Expect.keep(new StackGuard(), 0, "f/" + c + ":r"));
            Expect.same("h*:" + c, c >= '0' && c <= '9' ? 0 : c == '-' ? 5 : 4,
                    Expect.keep(new StackGuard(), 0, "h*:" + c));
        }
    }

    /** All texts over a few labels and digits, all their beginnings, and each with one character more. */
    private static void everyTextOfTheGrammar() {
        List<String> texts = new ArrayList<>();
        List<String> dues = new ArrayList<>();
        addTexts(texts, dues);
        Set<String> whole = new HashSet<>(texts);
        Set<String> begun = new HashSet<>();
        for (String text : texts) {
            for (int n = 0; n <= text.length(); n++) {
                begun.add(text.substring(0, n));
            }
        }
        for (int i = 0; i < texts.size(); i++) {
            Expect.same(texts.get(i) + " written", dues.get(i), Expect.written(Expect.with(texts.get(i)), 0));
        }
        for (String start : begun) {
            Expect.same("keep of beginning '" + start + "'", whole.contains(start) ? 0 : 1 + start.length(),
                    Expect.keep(new StackGuard(), 0, start));
            for (char c : ALPHABET.toCharArray()) {
                if (!begun.contains(start + c)) {
                    Expect.fault(start + c, start.length());
                    Expect.fault(start + c + "a", start.length());
                }
            }
        }
    }

    private static void addTexts(List<String> texts, List<String> dues) {
        add(texts, dues, "*", "*");
        for (String path : paths()) {
            addLetters(texts, dues, "f" + path + ":", "");
        }
        for (String host : hosts()) {
            addRanges(texts, dues, "h" + host + ":");
        }
        for (String name : names()) {
            add(texts, dues, "n" + name, "n" + name);
        }
    }

    private static void add(List<String> texts, List<String> dues, String text, String due) {
        texts.add(text);
        dues.add(due);
    }

    private static void addLetters(List<String> texts, List<String> dues, String head, String letters) {
        if (!letters.isEmpty()) {
            StringBuilder due = new StringBuilder(head);
            for (char c : "rwxd".toCharArray()) {
                due.append(letters.indexOf(c) >= 0 ? String.valueOf(c) : "");
            }
            add(texts, dues, head + letters, due.toString());
        }
        for (char c : "rwxd".toCharArray()) {
            if (letters.indexOf(c) < 0) {
                addLetters(texts, dues, head, letters + c);
            }
        }
    }

    private static void addRanges(List<String> texts, List<String> dues, String head) {
        int[] digits = {0, 1, 3, 4, 8, 9};
        for (int low : digits) {
            add(texts, dues, head + low, head + low);
            add(texts, dues, head + low + "-", head + (low == 9 ? "9" : low + "-9"));
            add(texts, dues, head + "-" + low, head + (low == 0 ? "0" : "0-" + low));
            for (int high : digits) {
                if (high >= low) {
                    add(texts, dues, head + low + "-" + high, head + (low == high ? "" + low : low + "-" + high));
                }
            }
        }
    }

    /** All rows of so many labels, each but the first behind the mark. */
    private static List<String> rows(int count, String mark) {
        List<String> rows = new ArrayList<>();
        if (count == 1) {
            rows.addAll(List.of(LABELS));
        } else if (count > 1) {
            for (String row : rows(count - 1, mark)) {
                for (String label : LABELS) {
                    rows.add(row + mark + label);
                }
            }
        }
        return rows;
    }

    static List<String> paths() {
        List<String> paths = new ArrayList<>(List.of("/*", "/-"));
        for (int count = 1; count <= 3; count++) {
            for (String row : rows(count, "/")) {
                paths.add("/" + row);
                if (count < 3) {
                    paths.add("/" + row + "/*");
                    paths.add("/" + row + "/-");
                }
            }
        }
        return paths;
    }

    static List<String> hosts() {
        List<String> hosts = new ArrayList<>(List.of("*"));
        for (int count = 1; count <= 3; count++) {
            for (String row : rows(count, ".")) {
                hosts.add(row);
                if (count < 3) {
                    hosts.add("*." + row);
                }
            }
        }
        return hosts;
    }

    static List<String> names() {
        List<String> names = new ArrayList<>(List.of("*"));
        for (int count = 1; count <= 3; count++) {
            for (String row : rows(count, ".")) {
                names.add(row);
                if (count < 3) {
                    names.add(row + ".*");
                }
            }
        }
        return names;
    }

    private static void someWritten() {
        written("*", "*");
        written("f/a/-:dxwr", "f/a/-:rwxd");
        written("f/d/f/h:dw", "f/d/f/h:wd");
        written("h*.g.e:-", null);
        written("h*.g.e:7-7", "h*.g.e:7");
        written("ha.b.c:-9", "ha.b.c:0-9");
        written("ha.b.c:0-", "ha.b.c:0-9");
        written("h*:9-", "h*:9");
        written("h*:-0", "h*:0");
        written("nb.a.*", "nb.a.*");
    }

    private static void written(String text, String due) {
        StackGuard guard = new StackGuard();
        Expect.same("whether " + text + " is kept", due != null, Expect.keep(guard, 3, text) == 0);
        if (due != null) {
            Expect.same(text + " written", due, Expect.written(guard, 3));
        }
    }

    private static void writtenOutside() {
        StackGuard guard = Expect.with("f/a:dr");
        Expect.same("first", (int) 'f', guard.written(0, 0));
        Expect.same("last", (int) 'd', guard.written(0, 5));
        for (int k : new int[] {6, 16, -1, Integer.MIN_VALUE, Integer.MAX_VALUE}) {
            Expect.same("written(0, " + k + ")", StackGuard.NONE, guard.written(0, k));
        }
        for (int slot : new int[] {-1, 1, 7, 8, Integer.MIN_VALUE, Integer.MAX_VALUE}) {
            Expect.thrown("written(" + slot + ", 0)", Expect.NO_ELEMENT, () -> guard.written(slot, 0));
            Expect.thrown("written(" + slot + ", -1)", Expect.NO_ELEMENT, () -> guard.written(slot, -1));
        }
    }
}
