/** Promises 2 type, 3 keep, 4 written: each sentence that names a boundary case, with a test of its own. */
public final class TextEdgesTest {
    private static final String[] FIRSTS = {"f/a:rw", "f/a/*:d", "f/-:x", "ha.b:1-5", "h*.c:7", "h*:0", "na.b", "na.*", "n*"};

    public static void main(String[] args) {
        typeEdges();
        keepEdges();
        slotEdges();
        labelEdges();
        fileEdges();
        hostEdges();
        rangeEdges();
        nameEdges();
        faultEdges();
        writtenEdges();
        writtenTextEdges();
        Expect.finish();
    }

    private static void type(StackGuard guard, String text) {
        for (char c : text.toCharArray()) {
            Expect.same("type '" + c + "'", true, guard.type(c));
        }
    }

    private static void written(String text, String due) {
        Expect.same(text + " written", due, Expect.written(Expect.with(text), 0));
    }

    private static void typeEdges() {
        Expect.edge("terms", "put together in a PAD of at most 16 characters", () -> {
            StackGuard guard = new StackGuard();
            type(guard, "f/a/b/c:rwxd    ");
            Expect.same("one more", false, guard.type(' '));
            Expect.same("the longest permission, and more behind it", 13, guard.keep(0));
            type(guard, "nananananananana");
            Expect.same("one more behind sixteen anew", false, guard.type('n'));
        });
        Expect.edge("2 type", "Puts a character behind the pad's text: true", () -> {
            StackGuard guard = new StackGuard();
            Expect.same("first", true, guard.type('n'));
            Expect.same("second", true, guard.type('a'));
            Expect.same("read in this order", 0, guard.keep(0));
            type(guard, "an");
            Expect.same("the other order", 1, guard.keep(0));
        });
        Expect.edge("2 type", "refused with false when it is below ' '", () -> {
            StackGuard guard = new StackGuard();
            for (char c = 0; c < ' '; c++) {
                Expect.same("type " + (int) c, false, guard.type(c));
            }
            type(guard, "n");
            Expect.same("between two", false, guard.type((char) 31));
            type(guard, "a");
            Expect.same("none of them is in the pad", 0, guard.keep(0));
            Expect.same("the blank itself", true, guard.type(' '));
            Expect.same("it is in the pad, and can't stand there", 1, guard.keep(0));
        });
        Expect.edge("2 type", "or above '~'", () -> {
            StackGuard guard = new StackGuard();
            for (int c : new int[] {127, 128, 255, 256, 256 + '*', 32768 + '*', 65280 + '*', 65535}) {
                Expect.same("type " + c, false, guard.type((char) c));
            }
            type(guard, "*");
            Expect.same("behind one", false, guard.type((char) 127));
            Expect.same("none of them is in the pad", 0, guard.keep(0));
            Expect.same("~ itself", true, guard.type('~'));
            Expect.same("it is in the pad, and can't stand there", 1, guard.keep(0));
        });
        Expect.edge("2 type", "or 16 are there", () -> {
            StackGuard guard = new StackGuard();
            type(guard, "*              ");
            Expect.same("fifteen are there", true, guard.type(' '));
            for (int c : new int[] {' ', '*', '~', 31, 127}) {
                Expect.same("sixteen are there: " + c, false, guard.type((char) c));
            }
            Expect.same("the first sixteen are the text", 2, guard.keep(0));
            Expect.same("none is there", true, guard.type('*'));
            Expect.same("what was refused did not stay behind", 0, guard.keep(0));
        });
    }

    private static void keepEdges() {
        Expect.edge("3 keep", "The pad's text becomes the permission in a slot, and the pad is empty then: 0", () -> {
            StackGuard guard = Expect.with("na", "nb");
            Expect.same("over another one", 0, Expect.keep(guard, 0, "h*:3"));
            Expect.same("the new one", "h*:3", Expect.written(guard, 0));
            Expect.same("the slot beside", "nb", Expect.written(guard, 1));
            Expect.same("the pad is empty", 1, guard.keep(1));
            type(guard, "f/a/b/c:rwxd    ");
            Expect.same("sixteen had a place", false, guard.type(' '));
        });
        Expect.edge("3 keep", "or 1 + the fault, and only the pad is empty then", () -> {
            StackGuard guard = Expect.with("na", "nb");
            Expect.same("the first character", 1, Expect.keep(guard, 0, "zna"));
            Expect.same("the slot stays", "na", Expect.written(guard, 0));
            Expect.same("the slot beside stays", "nb", Expect.written(guard, 1));
            Expect.same("a full pad", 3, Expect.keep(guard, 2, "na              "));
            Expect.thrown("an empty slot stays empty", Expect.NO_ELEMENT, () -> guard.written(2, 0));
            Expect.same("the pad is empty", 0, Expect.keep(guard, 2, "n*"));
        });
        Expect.edge("3 keep", "1 + the fault", () -> {
            StackGuard guard = Expect.with("na");
            Expect.same("an empty pad", 1, guard.keep(0));
            Expect.same("an empty pad, once more", 1, guard.keep(0));
            Expect.same("the slot stays", "na", Expect.written(guard, 0));
        });
        Expect.edge("3 keep", "NoSuchElementException: there is no such slot (the pad stays).", () -> {
            StackGuard guard = new StackGuard();
            for (int slot : new int[] {-1, 8, -8, 256, Integer.MIN_VALUE, Integer.MAX_VALUE}) {
                Expect.thrown("an empty pad into " + slot, Expect.NO_ELEMENT, () -> guard.keep(slot));
                type(guard, "nb");
                Expect.thrown("a permission into " + slot, Expect.NO_ELEMENT, () -> guard.keep(slot));
                Expect.same("the pad stayed", 0, guard.keep(0));
                type(guard, "nbb");
                Expect.thrown("a fault into " + slot, Expect.NO_ELEMENT, () -> guard.keep(slot));
                Expect.same("the pad stayed, fault and all", 3, guard.keep(0));
            }
        });
    }

    private static void slotEdges() {
        Expect.edge("terms", "and kept in SLOTS 0 .. 7", () -> {
            StackGuard guard = new StackGuard();
            for (int slot = 0; slot < 8; slot++) {
                Expect.same("keep " + slot, 0, Expect.keep(guard, slot, "n" + (char) ('a' + slot)));
            }
            for (int slot = 0; slot < 8; slot++) {
                Expect.same("slot " + slot, "n" + (char) ('a' + slot), Expect.written(guard, slot));
            }
        });
        Expect.edge("terms", "(empty at first)", () -> {
            for (int slot = 0; slot < 8; slot++) {
                int empty = slot;
                StackGuard guard = new StackGuard();
                Expect.thrown("slot " + slot, Expect.NO_ELEMENT, () -> guard.written(empty, 0));
                Expect.keep(guard, slot, "*");
                Expect.same("filled", (int) '*', guard.written(slot, 0));
            }
        });
    }

    private static void labelEdges() {
        Expect.edge("terms", "A LABEL is a letter a .. i.", () -> {
            String[] heads = {"f/", "f/a/", "f/a/b/", "h", "ha.", "ha.b.", "h*.", "h*.a.", "n", "na.", "na.b."};
            for (String head : heads) {
                String behind = head.startsWith("f") ? ":r" : head.startsWith("h") ? ":1" : "";
                Expect.kept(head + "a" + behind, head + "i" + behind);
                for (char c : new char[] {'a' - 1, 'j', 'A', 'I', 'z', '0', ' '}) {
                    Expect.fault(head + c + behind, head.length());
                }
            }
        });
        Expect.edge("terms", "The texts, without blanks", () -> {
            for (String text : FIRSTS) {
                for (int n = 0; n <= text.length(); n++) {
                    Expect.fault(text.substring(0, n) + " " + text.substring(n), n);
                }
            }
        });
        Expect.edge("terms", "ALL: *", () -> {
            Expect.kept("*");
            Expect.fault("**", 1);
            Expect.fault("*:r", 1);
            Expect.fault("*.a", 1);
            Expect.fault("/a:r", 0);
        });
    }

    private static void fileEdges() {
        Expect.edge("terms", "one to four different ones of r w x d, in any order", () -> {
            Expect.fault("f/a:", 4);
            Expect.fault("f/a", 3);
            Expect.kept("f/a:r", "f/a:w", "f/a:x", "f/a:d", "f/a:dxwr", "f/a:rwxd", "f/a:xd", "f/a:wrd");
            Expect.fault("f/a:rwxdr", 8);
            Expect.fault("f/a:rwxd:", 8);
            for (char c : "aqseyvRWXD-*0".toCharArray()) {
                Expect.fault("f/a:" + c, 4);
                Expect.fault("f/a:r" + c, 5);
            }
        });
        Expect.edge("terms", "A path: one to three times / and a label", () -> {
            Expect.fault("f:r", 1);
            Expect.fault("fa:r", 1);
            Expect.fault("f/:r", 2);
            Expect.kept("f/a:r", "f/a/b:r", "f/a/b/c:r", "f/i/i/i:r");
            Expect.fault("f/a/b/c/d:r", 7);
            Expect.fault("f/aa:r", 3);
            Expect.fault("f/a.b:r", 3);
        });
        Expect.edge("terms", "or none to two times that, and behind it /* or /- .", () -> {
            Expect.kept("f/*:r", "f/-:r", "f/a/*:r", "f/a/-:r", "f/a/b/*:r", "f/a/b/-:r");
            Expect.fault("f/a/b/c/*:r", 7);
            Expect.fault("f/a/b/c/-:r", 7);
            Expect.fault("f*:r", 1);
            Expect.fault("f-:r", 1);
            Expect.fault("f/a*:r", 3);
            Expect.fault("f/*/a:r", 3);
            Expect.fault("f/-/-:r", 3);
            Expect.fault("f/**:r", 3);
            Expect.fault("f/*-:r", 3);
        });
    }

    private static void hostEdges() {
        Expect.edge("terms", "A host: *, or one to three labels with . between", () -> {
            Expect.fault("h:1", 1);
            Expect.kept("h*:1", "ha:1", "ha.b:1", "ha.b.c:1", "hi.i.i:1");
            Expect.fault("ha.b.c.d:1", 6);
            Expect.fault("hab:1", 2);
            Expect.fault("ha.:1", 3);
            Expect.fault("h.a:1", 1);
            Expect.fault("ha..b:1", 3);
            Expect.fault("ha/b:1", 2);
        });
        Expect.edge("terms", "or *. and one or two labels with . between", () -> {
            Expect.fault("h*.:1", 3);
            Expect.kept("h*.a:1", "h*.a.b:1");
            Expect.fault("h*.a.b.c:1", 6);
            Expect.fault("h*a:1", 2);
            Expect.fault("h**:1", 2);
            Expect.fault("h*.*.a:1", 3);
            Expect.fault("h*.a.*:1", 5);
            Expect.fault("ha.*:1", 3);
        });
    }

    private static void rangeEdges() {
        Expect.edge("terms", "A range: a digit", () -> {
            Expect.kept("ha:0", "ha:9");
            Expect.fault("ha:", 3);
            Expect.fault("ha", 2);
            Expect.fault("ha:/", 3);
            Expect.fault("ha::", 3);
            Expect.fault("ha:10", 4);
        });
        Expect.edge("terms", "or a digit, - and a digit that is not less", () -> {
            for (int low = 0; low < 10; low++) {
                for (int high = low; high < 10; high++) {
                    Expect.kept("ha:" + low + "-" + high);
                }
            }
            Expect.fault("ha:1-23", 6);
            Expect.fault("ha:1-2-", 6);
            Expect.fault("ha:1-:", 5);
            Expect.fault("ha:1-/", 5);
            Expect.fault("ha:1.2", 4);
        });
        Expect.edge("terms", "or a digit and - , or - and a digit", () -> {
            for (int digit = 0; digit < 10; digit++) {
                Expect.kept("ha:" + digit + "-", "ha:-" + digit);
            }
            Expect.fault("ha:-", 4);
            Expect.fault("ha:--", 4);
            Expect.fault("ha:-1-", 5);
            Expect.fault("ha:-12", 5);
            Expect.fault("ha:1--", 5);
            Expect.fault("ha:-/", 4);
            Expect.fault("ha:-:", 4);
        });
        Expect.edge("terms", "(from that one on; up to that one; of 0 .. 9)", () -> {
            StackGuard guard = Expect.with("ha:4-", "ha:-4", "ha:3", "ha:4", "ha:5", "ha:0", "ha:9", "ha:0-9");
            boolean[] from = {false, false, false, true, true, false, true, false};
            boolean[] upTo = {false, false, true, true, false, true, false, false};
            for (int slot = 2; slot < 8; slot++) {
                Expect.same("from 4 on, slot " + slot, from[slot], guard.takesIn(0, slot));
                Expect.same("up to 4, slot " + slot, upTo[slot], guard.takesIn(1, slot));
                Expect.same("0 to 9, slot " + slot, true, guard.takesIn(7, slot));
            }
        });
    }

    private static void nameEdges() {
        Expect.edge("terms", "NAME: n, and *, or one to three labels with . between", () -> {
            Expect.fault("n", 1);
            Expect.kept("n*", "na", "na.b", "na.b.c", "ni.i.i");
            Expect.fault("na.b.c.d", 6);
            Expect.fault("nab", 2);
            Expect.fault("na.", 3);
            Expect.fault("n.a", 1);
            Expect.fault("na..b", 3);
            Expect.fault("na/b", 2);
            Expect.fault("na:", 2);
        });
        Expect.edge("terms", "or one or two labels with . between and .* behind", () -> {
            Expect.fault("n.*", 1);
            Expect.kept("na.*", "na.b.*");
            Expect.fault("na.b.c.*", 6);
            Expect.fault("na*", 2);
            Expect.fault("n*.*", 2);
            Expect.fault("n*.a", 2);
            Expect.fault("na.*.b", 4);
            Expect.fault("na.**", 4);
            Expect.fault("na.-", 3);
        });
    }

    private static void faultEdges() {
        Expect.edge("terms", "how many characters stand before the first one that can't stand where it does", () -> {
            for (char c = ' '; c <= '~'; c++) {
                if ("*fhn".indexOf(c) < 0) {
                    Expect.fault(c + "", 0);
                    Expect.fault(c + "na", 0);
                }
            }
            for (String text : FIRSTS) {
                Expect.fault(text + "~", text.length());
                Expect.fault(text + "~~~", text.length());
            }
            Expect.fault("~~~~~~~~~~~~~~~~", 0);
            Expect.fault("f/a/b/c:rwxd~~~~", 12);
        });
        Expect.edge("terms", "or how many there are, if only something behind them is missing", () -> {
            Expect.fault("", 0);
            for (String text : new String[] {"f", "f/", "f/a", "f/a/", "f/a/b", "f/a/b/", "f/a/b/c", "f/a/b/c:",
                "f/*", "f/-", "f/a/b/-", "f/a/b/*:", "h", "ha", "ha.", "ha.b.", "ha.b.c", "ha.b.c:", "ha:-", "h*", "h*.",
                "h*.a", "h*.a.", "h*.a.b", "h*.a.b:", "h*:-", "n", "na.", "na.b."}) {
                Expect.fault(text, text.length());
            }
        });
        Expect.edge("terms", "Where there are as many labels as there may be, no further / or . can stand", () -> {
            Expect.fault("f/a/b/c/", 7);
            Expect.fault("ha.b.c.", 6);
            Expect.fault("h*.a.b.", 6);
            Expect.fault("na.b.c.", 6);
            Expect.fault("f/a/b/", 6);
            Expect.fault("ha.b.", 5);
            Expect.fault("h*.a.", 5);
            Expect.fault("na.b.", 5);
        });
        Expect.edge("terms", "nor can a letter of r w x d a second time", () -> {
            for (char c : "rwxd".toCharArray()) {
                Expect.fault("f/a:" + c + c, 5);
                Expect.fault("f/a:rwxd" + c, 8);
                Expect.fault("f/a:dxwr" + c, 8);
            }
            Expect.fault("f/a:rwr", 6);
            Expect.fault("f/a:rwxr", 7);
            Expect.fault("f/a:xdd", 6);
        });
        Expect.edge("terms", "or a digit that is less.", () -> {
            for (int first = 1; first < 10; first++) {
                for (int less = 0; less < first; less++) {
                    Expect.fault("ha:" + first + "-" + less, 5);
                }
            }
        });
    }

    private static void writtenTextEdges() {
        Expect.edge("terms", "WRITTEN, a permission has its letters of r w x d in this order", () -> {
            for (int i = 0; i < 256; i++) {
                String letters = "" + "rwxd".charAt(i >> 6) + "rwxd".charAt(i >> 4 & 3)
                        + "rwxd".charAt(i >> 2 & 3) + "rwxd".charAt(i & 3);
                if (letters.chars().distinct().count() == 4) {
                    written("f/a:" + letters, "f/a:rwxd");
                }
            }
            written("f/a:d", "f/a:d");
            written("f/d/-:dr", "f/d/-:rd");
            written("f/d/*:xw", "f/d/*:wx");
        });
        Expect.edge("terms", "and its range as one digit if it is but one", () -> {
            for (int digit = 0; digit < 10; digit++) {
                written("ha:" + digit, "ha:" + digit);
                written("ha:" + digit + "-" + digit, "ha:" + digit);
            }
            written("ha:9-", "ha:9");
            written("ha:-0", "ha:0");
        });
        Expect.edge("terms", "else as two (0 and 9 where none were told) with -", () -> {
            for (int digit = 0; digit < 9; digit++) {
                written("h*:" + digit + "-", "h*:" + digit + "-9");
                written("h*:-" + (digit + 1), "h*:0-" + (digit + 1));
                written("h*:" + digit + "-" + (digit + 1), "h*:" + digit + "-" + (digit + 1));
            }
            written("h*:0-9", "h*:0-9");
        });
        Expect.edge("terms", "else it is as its text was", () -> {
            for (String text : new String[] {"*", "n*", "na", "ni.h.g", "na.*", "nc.b.*", "f/*:r", "f/-:r", "f/d/b/*:r",
                "f/i/d/-:r", "f/h/f/d:r", "h*:1", "h*.d:1", "h*.i.a:1", "hc.b.a:1", "hf:1"}) {
                written(text, text);
            }
        });
    }

    private static void writtenEdges() {
        Expect.edge("4 written", "Character k (from 0) of the permission in a slot as it is written", () -> {
            StackGuard guard = Expect.with("ha:5-", "f/a/b/c:dxwr");
            Expect.same("the first one", (int) 'h', guard.written(0, 0));
            Expect.same("one that its text had not", (int) '9', guard.written(0, 5));
            Expect.same("the last one of the longest", (int) 'd', guard.written(1, 11));
            Expect.same("the slot beside", (int) 'f', guard.written(1, 0));
        });
        Expect.edge("4 written", "NONE if there is none", () -> {
            StackGuard guard = Expect.with("ha:5-5", "f/a/b/c:dxwr", "*");
            Expect.same("one that only its text had", -1, guard.written(0, 4));
            Expect.same("behind the longest", -1, guard.written(1, 12));
            Expect.same("behind the shortest", -1, guard.written(2, 1));
            for (int k : new int[] {-1, -2, 16, 256, 65536, Integer.MIN_VALUE, Integer.MAX_VALUE}) {
                Expect.same("character " + k, -1, guard.written(0, k));
            }
        });
        Expect.edge("4 written", "int written(int slot, int k) throws java.util.NoSuchElementException", () -> {
            StackGuard guard = Expect.with("*");
            for (int slot : new int[] {-1, 1, 7, 8, Integer.MIN_VALUE, Integer.MAX_VALUE}) {
                for (int k : new int[] {0, -1, 16}) {
                    Expect.thrown("slot " + slot, Expect.NO_ELEMENT, () -> guard.written(slot, k));
                }
            }
        });
    }
}
