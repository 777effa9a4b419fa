import java.util.List;

/** Promise 5 takesIn: each pair of paths, hosts and names, against the document's words said over texts. */
public final class TakesInTest {
    private static final String LABEL = "[a-i]";

    public static void main(String[] args) {
        everyPair("f", ":r", PermissionTextTest.paths());
        everyPair("h", ":5", PermissionTextTest.hosts());
        everyPair("n", "", PermissionTextTest.names());
        letters();
        ranges();
        kinds();
        wrongSlots();
        Expect.finish();
    }

    private static void everyPair(String kind, String ending, List<String> all) {
        for (String p : all) {
            StackGuard guard = Expect.with(kind + p + ending);
            for (int i = 0; i < all.size(); i++) {
                if (i % 20 == 0) {
                    guard = Expect.with(kind + p + ending);
                }
                String q = all.get(i);
                Expect.keep(guard, 1, kind + q + ending);
                boolean due = kind.equals("f") ? pathTakesIn(p, q)
                        : kind.equals("h") ? hostTakesIn(p, q) : nameTakesIn(p, q);
                Expect.same(kind + p + " takes in " + q, due, guard.takesIn(0, 1));
            }
        }
    }

    private static boolean pathTakesIn(String p, String q) {
        String ahead = p.substring(0, p.length() - 1);
        if (p.endsWith("-")) {
            return q.startsWith(ahead);
        }
        if (p.endsWith("*")) {
            return q.equals(p) || q.matches(ahead + LABEL);
        }
        return q.equals(p);
    }

    private static boolean hostTakesIn(String p, String q) {
        return p.equals("*") || (p.startsWith("*") ? q.endsWith(p.substring(1)) : q.equals(p));
    }

    private static boolean nameTakesIn(String p, String q) {
        return p.equals("*") || (p.endsWith("*") ? q.startsWith(p.substring(0, p.length() - 1)) : q.equals(p));
    }

    private static void letters() {
        for (int p = 1; p < 16; p++) {
            for (int q = 1; q < 16; q++) {
                StackGuard guard = Expect.with("f/-:" + lettersOf(p), "f/a:" + lettersOf(q));
                Expect.same("letters " + p + " and " + q, (q & ~p) == 0, guard.takesIn(0, 1));
            }
        }
    }

    private static String lettersOf(int bits) {
        StringBuilder letters = new StringBuilder();
        for (int i = 3; i >= 0; i--) {
            letters.append((bits >> i & 1) == 1 ? "rwxd".substring(i, i + 1) : "");
        }
        return letters.toString();
    }

    private static void ranges() {
        for (int p = 0; p < 100; p++) {
            for (int q = 0; q < 100; q++) {
                int pLow = p / 10, pHigh = p % 10, qLow = q / 10, qHigh = q % 10;
                if (pLow <= pHigh && qLow <= qHigh) {
                    StackGuard guard = Expect.with("h*:" + pLow + "-" + pHigh, "ha:" + qLow + "-" + qHigh);
                    Expect.same("ranges " + p + " and " + q, pLow <= qLow && qHigh <= pHigh, guard.takesIn(0, 1));
                }
            }
        }
        StackGuard open = Expect.with("ha:4-", "ha:4-9", "ha:-4", "ha:0-4", "ha:4");
        for (int i = 0; i < 4; i += 2) {
            Expect.same("open range " + i, true, open.takesIn(i, i + 1) && open.takesIn(i + 1, i));
            Expect.same("open range " + i + " has its digit", true, open.takesIn(i, 4));
        }
    }

    private static void kinds() {
        StackGuard guard = Expect.with("*", "f/-:rwxd", "h*:0-9", "n*", "f/a:r", "ha:1", "na");
        String[] due = {"1111111", "0100100", "0010010", "0001001", "0000100", "0000010", "0000001"};
        for (int p = 0; p < 7; p++) {
            for (int q = 0; q < 7; q++) {
                Expect.same("slot " + p + " takes in slot " + q, due[p].charAt(q) == '1', guard.takesIn(p, q));
            }
        }
    }

    private static void wrongSlots() {
        StackGuard guard = Expect.with("*");
        for (int slot : new int[] {-1, 1, 8, Integer.MIN_VALUE, Integer.MAX_VALUE}) {
            Expect.thrown("takesIn(" + slot + ", 0)", Expect.NO_ELEMENT, () -> guard.takesIn(slot, 0));
            Expect.thrown("takesIn(0, " + slot + ")", Expect.NO_ELEMENT, () -> guard.takesIn(0, slot));
        }
    }
}
