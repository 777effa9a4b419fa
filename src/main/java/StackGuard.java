import java.util.ArrayList;
import java.util.NoSuchElementException;

/** Tells whether a thread may do something, by what all code that led there may. */
public final class StackGuard {
    public static final int NONE = -1;

    private static final int PAD_LENGTH = 16;
    private static final int SLOTS = 8;
    private static final int SOURCES = 6;
    private static final int GRANTS = 6;
    private static final int THREADS = 4;
    private static final int FRAMES = 10;
    private static final int CONTEXTS = 8;
    private static final int NOTES = 7;

    private final StringBuilder pad = new StringBuilder();
    private final Permission[] slots = new Permission[SLOTS];
    private final Source[] sources = new Source[SOURCES];
    private final CallStack[] threads = new CallStack[THREADS];
    /** Each context as the bits of its sources; NONE where it is empty, as no source at all is a context, too. */
    private final int[] contexts = new int[CONTEXTS];
    /** The latest first. */
    private final ArrayList<Note> notes = new ArrayList<>();

    public StackGuard() {
        for (int i = 0; i < SOURCES; i++) {
            sources[i] = new Source();
        }
        for (int i = 0; i < CONTEXTS; i++) {
            contexts[i] = NONE;
        }
        threads[0] = new CallStack(0);
    }

    public boolean type(char c) {
        if (c < ' ' || c > '~' || pad.length() >= PAD_LENGTH) {
            return false;
        }
        pad.append(c);
        return true;
    }

    public int keep(int slot) throws NoSuchElementException {
        if (slot < 0 || slot >= SLOTS) {
            throw new NoSuchElementException();
        }
        Reading reading = new Reading(pad.toString());
        pad.setLength(0);
        if (!reading.succeeds()) {
            return 1 + reading.position();
        }
        slots[slot] = reading.result();
        return 0;
    }

    public int written(int slot, int k) throws NoSuchElementException {
        String text = permissionIn(slot).text;
        return k >= 0 && k < text.length() ? text.charAt(k) : NONE;
    }

    public boolean takesIn(int p, int q) throws NoSuchElementException {
        return permissionIn(p).includes(permissionIn(q));
    }

    public int grant(int source, int slot) throws NoSuchElementException, IllegalStateException {
        ArrayList<Permission> grants = sourceOf(source).grants;
        Permission granted = permissionIn(slot);
        if (grants.size() >= GRANTS) {
            throw new IllegalStateException();
        }
        grants.add(granted);
        return grants.size();
    }

    public int revoke(int source, int i) throws NoSuchElementException, IllegalArgumentException {
        ArrayList<Permission> grants = sourceOf(source).grants;
        if (i < 0 || i >= grants.size()) {
            throw new IllegalArgumentException();
        }
        grants.remove(i);
        return grants.size();
    }

    public boolean may(int source, int slot) throws NoSuchElementException {
        return sourceOf(source).isGranted(permissionIn(slot));
    }

    public int enter(int thread, int source) throws NoSuchElementException, IllegalStateException {
        ArrayList<Frame> frames = stackOf(thread).frames;
        sourceOf(source);
        if (frames.size() >= FRAMES) {
            throw new IllegalStateException();
        }
        frames.add(new Frame(source));
        return frames.size();
    }

    public int leave(int thread) throws NoSuchElementException, IllegalStateException {
        ArrayList<Frame> frames = stackOf(thread).frames;
        int top = frames.size() - 1;
        if (top < 0) {
            throw new IllegalStateException();
        }
        Frame left = frames.remove(top);
        if (top > 0) {
            frames.get(top - 1).dropGuard();
        }
        return left.source;
    }

    public void guard(int thread, int context, int slot) throws NoSuchElementException, IllegalStateException {
        ArrayList<Frame> frames = stackOf(thread).frames;
        int responsible = context == NONE ? 0 : sourcesIn(context);
        Permission limit = permissionOrNothing(slot);
        if (frames.isEmpty()) {
            throw new IllegalStateException();
        }
        frames.get(frames.size() - 1).becomeGuard(responsible, limit);
    }

    public int walk(int thread, int slot) throws NoSuchElementException {
        return stackOf(thread).sourcesWalked(permissionOrNothing(slot));
    }

    public int capture(int thread) throws NoSuchElementException, IllegalStateException {
        CallStack stack = stackOf(thread);
        int context = lowestEmptyContext();
        if (context == NONE) {
            throw new IllegalStateException();
        }
        contexts[context] = stack.sourcesWalked(null);
        return context;
    }

    public int combine(int one, int other) throws NoSuchElementException, IllegalArgumentException {
        int both = sourcesIn(one) | sourcesIn(other);
        if (one == other) {
            throw new IllegalArgumentException();
        }
        contexts[Math.min(one, other)] = both;
        contexts[Math.max(one, other)] = NONE;
        return Integer.bitCount(both);
    }

    public int spawn(int thread) throws NoSuchElementException, IllegalStateException {
        CallStack maker = stackOf(thread);
        int made = lowestMissingThread();
        if (made == NONE) {
            throw new IllegalStateException();
        }
        threads[made] = new CallStack(maker.sourcesWalked(null));
        return made;
    }

    public int end(int thread) throws NoSuchElementException, IllegalArgumentException {
        CallStack ended = stackOf(thread);
        if (thread == 0) {
            throw new IllegalArgumentException();
        }
        threads[thread] = null;
        return ended.frames.size();
    }

    public int check(int thread, int slot) throws NoSuchElementException, IllegalStateException {
        CallStack stack = stackOf(thread);
        Permission asked = permissionIn(slot);
        int walked = stack.sourcesWalked(asked);
        int blamed = sourceToBlame(walked, asked);
        if (blamed != NONE) {
            remember(new Note(thread, blamed));
            throw new IllegalStateException();
        }
        return Integer.bitCount(walked);
    }

    public int allowed(int thread) throws NoSuchElementException {
        CallStack stack = stackOf(thread);
        int count = 0;
        for (int i = 0; i < SLOTS; i++) {
            Permission asked = slots[i];
            if (asked != null && sourceToBlame(stack.sourcesWalked(asked), asked) == NONE) {
                count++;
            }
        }
        return count;
    }

    public int note(int i, int what) throws IllegalArgumentException {
        if (i < 0 || i >= notes.size() || what < 0 || what > 1) {
            throw new IllegalArgumentException();
        }
        Note told = notes.get(i);
        return what == 0 ? told.thread : told.blamed;
    }

    public float idle(int source) throws NoSuchElementException {
        return sourceOf(source).idlePart();
    }

    private Permission permissionIn(int slot) {
        if (slot < 0 || slot >= SLOTS || slots[slot] == null) {
            throw new NoSuchElementException();
        }
        return slots[slot];
    }

    private Permission permissionOrNothing(int slot) {
        return slot == NONE ? null : permissionIn(slot);
    }

    private Source sourceOf(int source) {
        if (source < 0 || source >= SOURCES) {
            throw new NoSuchElementException();
        }
        return sources[source];
    }

    private CallStack stackOf(int thread) {
        if (thread < 0 || thread >= THREADS || threads[thread] == null) {
            throw new NoSuchElementException();
        }
        return threads[thread];
    }

    private int sourcesIn(int context) {
        if (context < 0 || context >= CONTEXTS || contexts[context] == NONE) {
            throw new NoSuchElementException();
        }
        return contexts[context];
    }

    private int lowestEmptyContext() {
        for (int i = 0; i < CONTEXTS; i++) {
            if (contexts[i] == NONE) {
                return i;
            }
        }
        return NONE;
    }

    private int lowestMissingThread() {
        for (int i = 0; i < THREADS; i++) {
            if (threads[i] == null) {
                return i;
            }
        }
        return NONE;
    }

    private int sourceToBlame(int walked, Permission asked) {
        for (int i = 0; i < SOURCES; i++) {
            if ((walked >> i & 1) == 1 && !sources[i].isGranted(asked)) {
                return i;
            }
        }
        return NONE;
    }

    private void remember(Note latest) {
        if (notes.size() >= NOTES) {
            notes.remove(NOTES - 1);
        }
        notes.add(0, latest);
    }

    private static final class Note {
        final int thread;
        final int blamed;

        Note(int thread, int blamed) {
            this.thread = thread;
            this.blamed = blamed;
        }
    }

    private static final class Source {
        final ArrayList<Permission> grants = new ArrayList<>();

        boolean isGranted(Permission asked) {
            boolean byLetters = asked.kind == Permission.FILE;
            int missing = asked.parts;
            for (int i = 0; i < grants.size(); i++) {
                Permission granted = grants.get(i);
                if (granted.includes(asked)) {
                    return true;
                }
                if (byLetters && granted.reaches(asked)) {
                    missing &= ~granted.parts;
                }
            }
            return byLetters && missing == 0;
        }

        float idlePart() {
            if (grants.isEmpty()) {
                return 0f;
            }
            int idle = 0;
            for (int i = 0; i < grants.size(); i++) {
                if (anotherIncludes(i)) {
                    idle++;
                }
            }
            return (float) idle / (float) grants.size();
        }

        private boolean anotherIncludes(int index) {
            for (int i = 0; i < grants.size(); i++) {
                if (i != index && grants.get(i).includes(grants.get(index))) {
                    return true;
                }
            }
            return false;
        }
    }

    private static final class Frame {
        final int source;
        /** The sources themselves, not the context's number: a later combine() must not change them. */
        int responsible;
        private boolean isGuard;
        private Permission limit;

        Frame(int source) {
            this.source = source;
        }

        void becomeGuard(int newResponsible, Permission newLimit) {
            isGuard = true;
            responsible = newResponsible;
            limit = newLimit;
        }

        void dropGuard() {
            isGuard = false;
        }

        /** asked is null in the walk for nothing, which no limit takes in. */
        boolean endsWalk(Permission asked) {
            return isGuard && (limit == null || asked != null && limit.includes(asked));
        }
    }

    private static final class CallStack {
        final ArrayList<Frame> frames = new ArrayList<>();
        private final int fromMaker;

        CallStack(int fromMaker) {
            this.fromMaker = fromMaker;
        }

        /** As bits; asked is null in the walk for nothing. */
        int sourcesWalked(Permission asked) {
            int walked = 0;
            for (int i = frames.size() - 1; i >= 0; i--) {
                Frame frame = frames.get(i);
                walked |= 1 << frame.source;
                if (frame.endsWalk(asked)) {
                    return walked | frame.responsible;
                }
            }
            return walked | fromMaker;
        }
    }

    /**
     * Paths, hosts and names are one thing here: labels in a row and perhaps a wildcard behind them.
     * A host's labels stand in reverse, as its wildcard is ahead of them.
     */
    private static final class Permission {
        static final char ALL = '*';
        static final char FILE = 'f';
        static final char HOST = 'h';
        static final char NAME = 'n';

        static final int NO_WILDCARD = 0;
        /** Stands for one label: the * of a path. */
        static final int ONE_LABEL = 1;
        /** Stands for one label or more, and for other wildcards: the - of a path, the * of a host or a name. */
        static final int ANY_LABELS = 2;

        /** ALL lacks nothing that another permission could have. */
        static final int ALL_PARTS = -1;

        final char kind;
        final String text;
        /** The letters of a FILE or the digits of a HOST's range, as bits. */
        final int parts;
        private final String labels;
        private final int wildcard;

        Permission(char kind, String text, int parts, String labels, int wildcard) {
            this.kind = kind;
            this.text = text;
            this.parts = parts;
            this.labels = labels;
            this.wildcard = wildcard;
        }

        boolean includes(Permission other) {
            return reaches(other) && (other.parts & ~parts) == 0;
        }

        /** Whether this would take in the other one if letters and ranges did not count. */
        boolean reaches(Permission other) {
            if (kind == ALL) {
                return true;
            }
            return kind == other.kind && other.beginsBy(labels) && wildcardFits(other);
        }

        private boolean beginsBy(String first) {
            if (labels.length() < first.length()) {
                return false;
            }
            for (int i = 0; i < first.length(); i++) {
                if (labels.charAt(i) != first.charAt(i)) {
                    return false;
                }
            }
            return true;
        }

        /** Of another one that begins by the labels of this one: whether what follows there may follow. */
        private boolean wildcardFits(Permission other) {
            int more = other.labels.length() - labels.length();
            boolean same = more == 0 && other.wildcard == wildcard;
            if (wildcard == ANY_LABELS) {
                return more > 0 || other.wildcard != NO_WILDCARD;
            }
            if (wildcard == ONE_LABEL) {
                return same || more == 1 && other.wildcard == NO_WILDCARD;
            }
            return same;
        }
    }

    /** Reads a text from left to right, and stays in front of the first character that can't stand where it does. */
    private static final class Reading {
        private static final char END = '\0';
        private static final String LETTERS = "rwxd";
        private static final int LABELS = 3;

        private final String text;
        private int at;
        private char kind = END;
        /** First the labels and then the written text, as one builder is all that a call should make. */
        private final StringBuilder built = new StringBuilder();
        private int wildcard = Permission.NO_WILDCARD;
        private int parts;
        private int low;
        private int high;

        Reading(String text) {
            this.text = text;
        }

        boolean succeeds() {
            return readPermission() && at == text.length();
        }

        int position() {
            return at;
        }

        /** Only for a text that was read to its end. */
        Permission result() {
            String labels = built.toString();
            built.setLength(0);
            return new Permission(kind, writtenText(), parts, labels, wildcard);
        }

        private boolean readPermission() {
            kind = next();
            if (accept(Permission.ALL)) {
                parts = Permission.ALL_PARTS;
                return true;
            }
            if (accept(Permission.FILE)) {
                return readPath() && accept(':') && readLetters();
            }
            if (accept(Permission.HOST)) {
                return readHost() && accept(':') && readRange();
            }
            return accept(Permission.NAME) && readName();
        }

        private boolean readPath() {
            for (int i = 0; i < LABELS; i++) {
                if (!accept('/')) {
                    return i > 0;
                }
                if (acceptWildcard('*', Permission.ONE_LABEL) || acceptWildcard('-', Permission.ANY_LABELS)) {
                    return true;
                }
                if (!readLabel()) {
                    return false;
                }
            }
            return true;
        }

        private boolean readHost() {
            if (!acceptWildcard('*', Permission.ANY_LABELS)) {
                return readHostLabels(LABELS);
            }
            return !accept('.') || readHostLabels(LABELS - 1);
        }

        private boolean readHostLabels(int most) {
            for (int i = 0; i < most; i++) {
                if (i > 0 && !accept('.')) {
                    break;
                }
                if (!readLabel()) {
                    return false;
                }
            }
            built.reverse();
            return true;
        }

        private boolean readName() {
            for (int i = 0; i < LABELS; i++) {
                if (i > 0 && !accept('.')) {
                    return true;
                }
                if (acceptWildcard('*', Permission.ANY_LABELS)) {
                    return true;
                }
                if (!readLabel()) {
                    return false;
                }
            }
            return true;
        }

        private boolean readLabel() {
            char label = next();
            if (label < 'a' || label > 'i') {
                return false;
            }
            built.append(label);
            at++;
            return true;
        }

        private boolean readLetters() {
            for (int i = 0; i < LETTERS.length(); i++) {
                int letter = LETTERS.indexOf(next());
                if (letter < 0 || (parts >> letter & 1) == 1) {
                    break;
                }
                parts |= 1 << letter;
                at++;
            }
            return parts != 0;
        }

        private boolean readRange() {
            int first = readDigit(0);
            int last = accept('-') ? readDigit(Math.max(first, 0)) : first;
            if (first == NONE && last == NONE) {
                return false;
            }
            low = first == NONE ? 0 : first;
            high = last == NONE ? 9 : last;
            parts = (2 << high) - (1 << low);
            return true;
        }

        private int readDigit(int least) {
            int digit = next() - '0';
            if (digit < least || digit > 9) {
                return NONE;
            }
            at++;
            return digit;
        }

        private boolean acceptWildcard(char c, int meaning) {
            if (!accept(c)) {
                return false;
            }
            wildcard = meaning;
            return true;
        }

        private boolean accept(char c) {
            if (next() != c) {
                return false;
            }
            at++;
            return true;
        }

        private char next() {
            return at < text.length() ? text.charAt(at) : END;
        }

        private String writtenText() {
            int colon = text.indexOf(':');
            if (colon < 0) {
                return text;
            }
            built.append(text.substring(0, colon + 1));
            if (kind == Permission.FILE) {
                appendLetters();
            } else {
                appendRange();
            }
            return built.toString();
        }

        private void appendLetters() {
            for (int i = 0; i < LETTERS.length(); i++) {
                if ((parts >> i & 1) == 1) {
                    built.append(LETTERS.charAt(i));
                }
            }
        }

        private void appendRange() {
            built.append(low);
            if (high > low) {
                built.append('-').append(high);
            }
        }
    }
}
