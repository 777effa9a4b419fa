import java.util.ArrayDeque;
import java.util.ArrayList;
import java.util.Deque;
import java.util.List;
import java.util.NoSuchElementException;
import java.util.Set;
import java.util.TreeSet;

/** The document's promises once more, over texts and sets, as simple as can be: what long runs are held against. */
final class Model {
    private static final String LABEL = "[a-i]";
    private static final String PATH = "(/[a-i]){1,3}|(/[a-i]){0,2}/[*-]";
    private static final String HOST = "\\*|[a-i](\\.[a-i]){0,2}|\\*\\.[a-i](\\.[a-i])?";
    private static final String NAME = "\\*|[a-i](\\.[a-i]){0,2}|[a-i](\\.[a-i])?\\.\\*";

    private static final class Frame {
        int source;
        boolean guard;
        Set<Integer> context = Set.of();
        String limit;
    }

    private static final class Strand {
        final Deque<Frame> frames = new ArrayDeque<>();
        Set<Integer> fromMaker = Set.of();
    }

    private String pad = "";
    private final String[] slots = new String[8];
    private final List<List<String>> grants = new ArrayList<>();
    private final List<Set<Integer>> contexts = new ArrayList<>();
    private final Strand[] threads = {new Strand(), null, null, null};
    private final List<int[]> notes = new ArrayList<>();

    Model() {
        for (int i = 0; i < 6; i++) {
            grants.add(new ArrayList<>());
        }
        for (int i = 0; i < 8; i++) {
            contexts.add(null);
        }
    }

    boolean type(char c) {
        boolean taken = c >= ' ' && c <= '~' && pad.length() < 16;
        pad += taken ? String.valueOf(c) : "";
        return taken;
    }

    /** Only whether it is a permission: what the fault is, PermissionTextTest holds against all texts. */
    boolean keepSucceeds(int slot) {
        found(slot >= 0 && slot < 8);
        String text = canonical(pad);
        pad = "";
        slots[slot] = text == null ? slots[slot] : text;
        return text != null;
    }

    private static String canonical(String text) {
        if (text.equals("*") || text.startsWith("n") && text.substring(1).matches(NAME)) {
            return text;
        }
        int colon = text.indexOf(':');
        if (colon < 1) {
            return null;
        }
        String middle = text.substring(1, colon);
        String ending = text.substring(colon + 1);
        if (text.startsWith("f") && middle.matches(PATH) && ending.matches("[rwxd]{1,4}")
                && ending.chars().distinct().count() == ending.length()) {
            return text.substring(0, colon + 1) + "rwxd".replaceAll("[^" + ending + "]", "");
        }
        if (text.startsWith("h") && middle.matches(HOST) && ending.matches("[0-9](-[0-9]?)?|-[0-9]")) {
            int low = ending.startsWith("-") ? 0 : ending.charAt(0) - '0';
            int high = ending.endsWith("-") ? 9 : ending.charAt(ending.length() - 1) - '0';
            return low > high ? null : text.substring(0, colon + 1) + (low == high ? "" + low : low + "-" + high);
        }
        return null;
    }

    int written(int slot, int k) {
        String text = in(slot);
        return k < 0 || k >= text.length() ? -1 : text.charAt(k);
    }

    boolean takesIn(int p, int q) {
        return takesIn(in(p), in(q));
    }

    private static boolean takesIn(String p, String q) {
        if (p.equals("*") || q.equals("*") || p.charAt(0) != q.charAt(0)) {
            return p.equals("*");
        }
        String pMiddle = p.substring(1).split(":")[0];
        String qMiddle = q.substring(1).split(":")[0];
        String ahead = pMiddle.substring(0, pMiddle.length() - 1);
        switch (p.charAt(0)) {
            case 'f':
                boolean path = pMiddle.endsWith("-") ? qMiddle.startsWith(ahead)
                        : qMiddle.equals(pMiddle) || pMiddle.endsWith("*") && qMiddle.matches(ahead + LABEL);
                return path && lettersOf(q).chars().allMatch(c -> lettersOf(p).indexOf(c) >= 0);
            case 'h':
                boolean host = pMiddle.equals("*") || qMiddle.equals(pMiddle)
                        || pMiddle.startsWith("*") && qMiddle.endsWith(pMiddle.substring(1));
                String range = p.split(":")[1];
                String other = q.split(":")[1];
                return host && range.charAt(0) <= other.charAt(0)
                        && range.charAt(range.length() - 1) >= other.charAt(other.length() - 1);
            default:
                return pMiddle.equals("*") || qMiddle.equals(pMiddle)
                        || pMiddle.endsWith("*") && qMiddle.startsWith(ahead);
        }
    }

    private static String lettersOf(String file) {
        return file.split(":")[1];
    }

    int grant(int source, int slot) {
        found(source >= 0 && source < 6);
        String text = in(slot);
        possible(grants.get(source).size() < 6);
        grants.get(source).add(text);
        return grants.get(source).size();
    }

    int revoke(int source, int i) {
        found(source >= 0 && source < 6);
        sensible(i >= 0 && i < grants.get(source).size());
        grants.get(source).remove(i);
        return grants.get(source).size();
    }

    boolean may(int source, int slot) {
        found(source >= 0 && source < 6);
        return mayText(source, in(slot));
    }

    private boolean mayText(int source, String q) {
        List<String> own = grants.get(source);
        if (own.stream().anyMatch(p -> takesIn(p, q))) {
            return true;
        }
        String head = q.substring(0, q.indexOf(':') + 1);
        return q.startsWith("f")
                && lettersOf(q).chars().allMatch(c -> own.stream().anyMatch(p -> takesIn(p, head + (char) c)));
    }

    int enter(int thread, int source) {
        Strand strand = there(thread);
        found(source >= 0 && source < 6);
        possible(strand.frames.size() < 10);
        Frame frame = new Frame();
        frame.source = source;
        strand.frames.push(frame);
        return strand.frames.size();
    }

    int leave(int thread) {
        Strand strand = there(thread);
        possible(!strand.frames.isEmpty());
        int source = strand.frames.pop().source;
        if (!strand.frames.isEmpty()) {
            strand.frames.peek().guard = false;
        }
        return source;
    }

    void guard(int thread, int context, int slot) {
        Strand strand = there(thread);
        Set<Integer> sources = context == -1 ? Set.of() : filled(context);
        String limit = slot == -1 ? null : in(slot);
        possible(!strand.frames.isEmpty());
        Frame top = strand.frames.peek();
        top.guard = true;
        top.context = sources;
        top.limit = limit;
    }

    int walk(int thread, int slot) {
        Strand strand = there(thread);
        int bits = 0;
        for (int source : walked(strand, slot == -1 ? null : in(slot))) {
            bits += 1 << source;
        }
        return bits;
    }

    private static Set<Integer> walked(Strand strand, String q) {
        Set<Integer> sources = new TreeSet<>();
        for (Frame frame : strand.frames) {
            sources.add(frame.source);
            if (frame.guard && (frame.limit == null || q != null && takesIn(frame.limit, q))) {
                sources.addAll(frame.context);
                return sources;
            }
        }
        sources.addAll(strand.fromMaker);
        return sources;
    }

    int capture(int thread) {
        Strand strand = there(thread);
        int context = contexts.indexOf(null);
        possible(context >= 0);
        contexts.set(context, walked(strand, null));
        return context;
    }

    int combine(int one, int other) {
        Set<Integer> both = new TreeSet<>(filled(one));
        both.addAll(filled(other));
        sensible(one != other);
        contexts.set(one < other ? one : other, both);
        contexts.set(one < other ? other : one, null);
        return both.size();
    }

    int spawn(int thread) {
        Strand maker = there(thread);
        for (int i = 0; i < 4; i++) {
            if (threads[i] == null) {
                threads[i] = new Strand();
                threads[i].fromMaker = walked(maker, null);
                return i;
            }
        }
        throw new IllegalStateException();
    }

    int end(int thread) {
        int frames = there(thread).frames.size();
        sensible(thread != 0);
        threads[thread] = null;
        return frames;
    }

    int check(int thread, int slot) {
        Strand strand = there(thread);
        String q = in(slot);
        Set<Integer> sources = walked(strand, q);
        for (int source : sources) {
            if (!mayText(source, q)) {
                notes.add(0, new int[] {thread, source});
                throw new IllegalStateException();
            }
        }
        return sources.size();
    }

    int allowed(int thread) {
        Strand strand = there(thread);
        int count = 0;
        for (String q : slots) {
            if (q != null && walked(strand, q).stream().allMatch(source -> mayText(source, q))) {
                count++;
            }
        }
        return count;
    }

    int note(int i, int what) {
        sensible(i >= 0 && i < Math.min(notes.size(), 7) && (what == 0 || what == 1));
        return notes.get(i)[what];
    }

    float idle(int source) {
        found(source >= 0 && source < 6);
        List<String> own = grants.get(source);
        int idle = 0;
        for (String q : own) {
            // Each takes in itself, so one that another takes in is taken in twice.
            idle += own.stream().filter(p -> takesIn(p, q)).count() > 1 ? 1 : 0;
        }
        return own.isEmpty() ? 0f : (float) idle / own.size();
    }

    private String in(int slot) {
        found(slot >= 0 && slot < 8 && slots[slot] != null);
        return slots[slot];
    }

    private Set<Integer> filled(int context) {
        found(context >= 0 && context < 8 && contexts.get(context) != null);
        return contexts.get(context);
    }

    private Strand there(int thread) {
        found(thread >= 0 && thread < 4 && threads[thread] != null);
        return threads[thread];
    }

    private static void found(boolean holds) {
        if (!holds) {
            throw new NoSuchElementException();
        }
    }

    private static void sensible(boolean holds) {
        if (!holds) {
            throw new IllegalArgumentException();
        }
    }

    private static void possible(boolean holds) {
        if (!holds) {
            throw new IllegalStateException();
        }
    }
}
