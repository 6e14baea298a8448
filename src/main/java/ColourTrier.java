import java.util.Arrays;

/**
 * A trier of colours: marking beside a program, in all orders of their acts: the shortest row of
 * acts by which something that is needed is lost, or a law of colours is broken, or that there is
 * none.
 */
public final class ColourTrier {
    private static final int NOTHING = -1;

    private static final int MOST_OBJECTS = 4;
    private static final int MOST_FIELDS = 2;
    private static final int MOST_ROOTS = 3;
    private static final int MOST_BARRIERS = 127;
    private static final int MOST_ACTS = 8;

    private static final int LAST_ACT = 49;
    private static final int LAST_LAW = 3;
    private static final int LAST_COUNT = 8;

    private final Setup setup;
    private final Moves moves;
    private final Search search;
    private long state;

    public ColourTrier() {
        setup = new Setup();
        moves = new Moves(setup);
        search = new Search(moves);
        state = setup.firstState();
    }

    public void size(int objects, int fields, int roots) throws IllegalArgumentException {
        mustLieWithin(objects, 1, MOST_OBJECTS);
        mustLieWithin(fields, 1, MOST_FIELDS);
        mustLieWithin(roots, 1, MOST_ROOTS);
        setup.resize(objects, fields, roots);
        state = setup.firstState();
    }

    public void point(int object, int f, int to) throws IllegalArgumentException {
        mustLieWithin(object, 0, setup.objects - 1);
        mustLieWithin(f, 0, setup.fields - 1);
        mustLieWithin(to, NOTHING, setup.objects - 1);
        setup.links = State.withField(setup.links, object, f, to);
        state = setup.firstState();
    }

    public void root(int i, int object) throws IllegalArgumentException {
        mustLieWithin(i, 0, setup.roots - 1);
        mustLieWithin(object, NOTHING, setup.objects - 1);
        setup.links = State.withRoot(setup.links, i, object);
        state = setup.firstState();
    }

    public void rules(int barriers, int acts) throws IllegalArgumentException {
        mustLieWithin(barriers, 0, MOST_BARRIERS);
        mustLieWithin(acts, 0, MOST_ACTS);
        setup.barriers = barriers;
        setup.acts = acts;
        state = setup.firstState();
    }

    public int find(int what) throws IllegalArgumentException {
        mustLieWithin(what, 0, LAST_LAW);
        return search.shortestRow(setup.firstState(), what);
    }

    public int act(int i) throws IndexOutOfBoundsException {
        if (i < 0 || i >= search.rowLength) {
            throw new IndexOutOfBoundsException("the row has no such act");
        }
        return search.row[i];
    }

    public int play(int act) throws IllegalArgumentException, IllegalStateException {
        mustLieWithin(act, 0, LAST_ACT);
        long next = moves.behind(state, act);
        if (next == Moves.IMPOSSIBLE) {
            throw new IllegalStateException("the act can not be done");
        }
        state = next;
        return moves.possibleActs(state);
    }

    public int again() {
        state = setup.firstState();
        return moves.possibleActs(state);
    }

    public boolean broken(int what) throws IllegalArgumentException {
        mustLieWithin(what, 0, LAST_LAW);
        return Laws.isBroken(state, what);
    }

    public int colour(int object) throws IllegalArgumentException {
        mustLieWithin(object, 0, setup.objects - 1);
        if (State.isBlack(state, object)) {
            return 2;
        }
        return State.isWhite(state, object) ? 0 : 1;
    }

    public int field(int object, int f) throws IllegalArgumentException {
        mustLieWithin(object, 0, setup.objects - 1);
        mustLieWithin(f, 0, setup.fields - 1);
        return State.inField(state, object, f);
    }

    public int has(int i) throws IllegalArgumentException {
        mustLieWithin(i, 0, setup.roots - 1);
        return State.inRoot(state, i);
    }

    public int count(int what) throws IllegalArgumentException {
        mustLieWithin(what, 0, LAST_COUNT);
        switch (what) {
            case 0: return setup.objects;
            case 1: return setup.fields;
            case 2: return setup.roots;
            case 3: return setup.barriers;
            case 4: return setup.acts;
            case 5: return search.stateCount;
            case 6: return search.rowLength;
            case 7: return State.isOver(state) ? 1 : 0;
            default: return State.actsLeft(state);
        }
    }

    private static void mustLieWithin(int number, int least, int most) {
        if (number < least || number > most) {
            throw new IllegalArgumentException("a number is out of range");
        }
    }

    /** What the caller has laid down: sizes, what is linked at first, barriers, the program's acts. */
    private static final class Setup {
        int objects = 1;
        int fields = 1;
        int roots = 1;
        int barriers = 0;
        int acts = 0;

        /** What FIELDS and ROOTS have at first, in the bits of a STATE. */
        long links = 0L;

        void resize(int newObjects, int newFields, int newRoots) {
            objects = newObjects;
            fields = newFields;
            roots = newRoots;
            links = 0L;
        }

        long firstState() {
            return State.withActsLeft(links, acts);
        }

        boolean hasBarrier(int bit) {
            return (barriers & bit) != 0;
        }
    }

    /**
     * A STATE is kept in 52 bits of one long, so that a search can hold and compare 20000 of them
     * in a single array. A FIELD or ROOT takes three bits (0 NOTHING, else the OBJECT plus one); an
     * OBJECT has a bit among the greys and one among the blacks, and is WHITE with neither. Of a
     * GREY one at most one FIELD was looked at (behind the second it is BLACK), hence one bit;
     * it is 0 for the others, so that equal STATES have equal bits.
     */
    private static final class State {
        private static final int ROOTS_AT = 24;
        private static final int GREYS_AT = 33;
        private static final int BLACKS_AT = 37;
        private static final int FIELD_LOOKS_AT = 41;
        private static final int ROOT_LOOKS_AT = 45;
        private static final int OVER_AT = 47;
        private static final int ACTS_LEFT_AT = 48;

        static int inField(long s, int object, int f) {
            return ((int) (s >>> fieldPlace(object, f)) & 7) - 1;
        }

        static long withField(long s, int object, int f, int to) {
            int place = fieldPlace(object, f);
            return (s & ~(7L << place)) | ((to + 1L) << place);
        }

        private static int fieldPlace(int object, int f) {
            return 6 * object + 3 * f;
        }

        static int inRoot(long s, int i) {
            return ((int) (s >>> rootPlace(i)) & 7) - 1;
        }

        static long withRoot(long s, int i, int to) {
            int place = rootPlace(i);
            return (s & ~(7L << place)) | ((to + 1L) << place);
        }

        private static int rootPlace(int i) {
            return ROOTS_AT + 3 * i;
        }

        /** The OBJECTS that ROOTS have, a bit each. */
        static int setInRoots(long s) {
            int found = 0;
            for (int i = 0; i < MOST_ROOTS; i++) {
                found |= 1 << ((int) (s >>> (ROOTS_AT + 3 * i)) & 7);
            }
            // Links are OBJECTS plus one: the shift sets that right, and drops the bit of NOTHING.
            return found >>> 1;
        }

        /** The OBJECTS that the FIELDS of some OBJECTS have, a bit each. */
        static int setInFields(long s, int holders) {
            int found = 0;
            for (int object = 0; object < MOST_OBJECTS; object++) {
                if ((holders >>> object & 1) != 0) {
                    int links = (int) (s >>> (6 * object)) & 63;
                    found |= 1 << (links & 7) | 1 << (links >>> 3);
                }
            }
            return found >>> 1;
        }

        /** The GREY OBJECTS, a bit each. */
        static int greys(long s) {
            return (int) (s >>> GREYS_AT) & 15;
        }

        /** The BLACK OBJECTS, a bit each. */
        static int blacks(long s) {
            return (int) (s >>> BLACKS_AT) & 15;
        }

        /** The WHITE OBJECTS, a bit each; numbers that the set-up lacks count too, but nothing has them. */
        static int whites(long s) {
            return ~(greys(s) | blacks(s)) & 15;
        }

        static boolean isBlack(long s, int object) {
            return (s >>> (BLACKS_AT + object) & 1L) != 0L;
        }

        /** NOTHING is not WHITE. */
        static boolean isWhite(long s, int object) {
            return greyIfWhite(s, object) != s;
        }

        static long greyIfWhite(long s, int object) {
            if (object == NOTHING) {
                return s;
            }
            long coloured = (s >>> (GREYS_AT + object) | s >>> (BLACKS_AT + object)) & 1L;
            return coloured != 0L ? s : s | 1L << (GREYS_AT + object);
        }

        static int leastGrey(long s) {
            for (int object = 0; object < MOST_OBJECTS; object++) {
                if ((s >>> (GREYS_AT + object) & 1L) != 0L) {
                    return object;
                }
            }
            return NOTHING;
        }

        /** For a BLACK one; no FIELD of it counts as looked at, as its bit was put back when it became BLACK. */
        static long greyAgain(long s, int object) {
            return (s & ~(1L << (BLACKS_AT + object))) | 1L << (GREYS_AT + object);
        }

        static long blackened(long s, int object) {
            long bare = s & ~(1L << (GREYS_AT + object)) & ~(1L << (FIELD_LOOKS_AT + object));
            return bare | 1L << (BLACKS_AT + object);
        }

        static int fieldsLookedAt(long s, int object) {
            return (int) (s >>> (FIELD_LOOKS_AT + object)) & 1;
        }

        static long withFirstFieldLookedAt(long s, int object) {
            return s | 1L << (FIELD_LOOKS_AT + object);
        }

        static int rootsLookedAt(long s) {
            return (int) (s >>> ROOT_LOOKS_AT) & 3;
        }

        /** Only while a ROOT is left to look at. */
        static long withOneMoreRootLookedAt(long s) {
            return s + (1L << ROOT_LOOKS_AT);
        }

        static boolean isOver(long s) {
            return (s >>> OVER_AT & 1L) != 0L;
        }

        static long ended(long s) {
            return s | 1L << OVER_AT;
        }

        static int actsLeft(long s) {
            return (int) (s >>> ACTS_LEFT_AT) & 15;
        }

        static long withActsLeft(long s, int acts) {
            return (s & ~(15L << ACTS_LEFT_AT)) | (long) acts << ACTS_LEFT_AT;
        }
    }

    /** The acts, by their numbers, under a set-up's sizes and barriers. */
    private static final class Moves {
        /** No STATE is negative. */
        static final long IMPOSSIBLE = -1L;

        private static final int LOOK = 0;
        private static final int END = 1;
        private static final int FIRST_COPY = 2;
        private static final int FIRST_LOAD = 11;
        private static final int FIRST_STORE = 29;
        private static final int FIRST_CLEAR = 47;

        private static final int GREY_OLD = 1;
        private static final int GREY_NEW = 2;
        private static final int GREY_NEW_IN_BLACK = 4;
        private static final int GREY_HOLDER_AGAIN = 8;
        private static final int GREY_WHAT_ROOT_GETS = 16;
        private static final int ROOTS_AT_END = 32;
        private static final int GREY_WHAT_ROOT_HAD = 64;

        private final Setup setup;

        Moves(Setup setup) {
            this.setup = setup;
        }

        int possibleActs(long s) {
            int possible = 0;
            int last = lastActToTry(s);
            for (int act = 0; act <= last; act++) {
                if (behind(s, act) != IMPOSSIBLE) {
                    possible++;
                }
            }
            return possible;
        }

        /** Spares trying the program's acts where it can do none. */
        int lastActToTry(long s) {
            return State.actsLeft(s) > 0 && !State.isOver(s) ? LAST_ACT : END;
        }

        /** The STATE behind an act, 0 .. 49, or IMPOSSIBLE. */
        long behind(long s, int act) {
            if (State.isOver(s)) {
                return IMPOSSIBLE;
            }
            if (act == LOOK) {
                return look(s);
            }
            if (act == END) {
                return end(s);
            }
            int left = State.actsLeft(s);
            if (left == 0) {
                return IMPOSSIBLE;
            }
            // No act of the program asks how many are left, so this one may be taken off beforehand.
            long spent = State.withActsLeft(s, left - 1);
            if (act < FIRST_LOAD) {
                int n = act - FIRST_COPY;
                return copy(spent, n / 3, n % 3);
            }
            if (act < FIRST_STORE) {
                int n = act - FIRST_LOAD;
                return load(spent, n / 6, n / 2 % 3, n % 2);
            }
            if (act < FIRST_CLEAR) {
                int n = act - FIRST_STORE;
                return store(spent, n / 6, n / 2 % 3, n % 2);
            }
            return clear(spent, act - FIRST_CLEAR);
        }

        private long look(long s) {
            int i = State.rootsLookedAt(s);
            if (i < setup.roots) {
                return State.greyIfWhite(State.withOneMoreRootLookedAt(s), State.inRoot(s, i));
            }
            int object = State.leastGrey(s);
            if (object == NOTHING) {
                return IMPOSSIBLE;
            }
            int f = State.fieldsLookedAt(s, object);
            long next = State.greyIfWhite(s, State.inField(s, object, f));
            if (f + 1 < setup.fields) {
                return State.withFirstFieldLookedAt(next, object);
            }
            return State.blackened(next, object);
        }

        private long end(long s) {
            if (State.rootsLookedAt(s) < setup.roots || State.greys(s) != 0) {
                return IMPOSSIBLE;
            }
            long next = s;
            if (setup.hasBarrier(ROOTS_AT_END)) {
                for (int i = 0; i < setup.roots; i++) {
                    next = State.greyIfWhite(next, State.inRoot(s, i));
                }
            }
            return next == s ? State.ended(s) : next;
        }

        private long copy(long s, int a, int b) {
            if (a == b || a >= setup.roots || b >= setup.roots) {
                return IMPOSSIBLE;
            }
            return rootGets(s, a, State.inRoot(s, b));
        }

        private long load(long s, int a, int b, int f) {
            if (a >= setup.roots || b >= setup.roots || f >= setup.fields) {
                return IMPOSSIBLE;
            }
            int object = State.inRoot(s, b);
            if (object == NOTHING) {
                return IMPOSSIBLE;
            }
            return rootGets(s, a, State.inField(s, object, f));
        }

        /** NOTHING is never WHITE, so the barrier on what the ROOT gets leaves a CLEAR alone. */
        private long clear(long s, int a) {
            return a >= setup.roots ? IMPOSSIBLE : rootGets(s, a, NOTHING);
        }

        private long rootGets(long s, int a, int to) {
            long next = s;
            if (setup.hasBarrier(GREY_WHAT_ROOT_HAD)) {
                next = State.greyIfWhite(next, State.inRoot(s, a));
            }
            if (setup.hasBarrier(GREY_WHAT_ROOT_GETS)) {
                next = State.greyIfWhite(next, to);
            }
            return State.withRoot(next, a, to);
        }

        private long store(long s, int a, int b, int f) {
            if (a >= setup.roots || b >= setup.roots || f >= setup.fields) {
                return IMPOSSIBLE;
            }
            int holder = State.inRoot(s, a);
            if (holder == NOTHING) {
                return IMPOSSIBLE;
            }
            int to = State.inRoot(s, b);
            long next = s;
            if (setup.hasBarrier(GREY_OLD)) {
                next = State.greyIfWhite(next, State.inField(s, holder, f));
            }
            if (setup.hasBarrier(GREY_NEW)) {
                next = State.greyIfWhite(next, to);
            }
            if (setup.hasBarrier(GREY_NEW_IN_BLACK) && State.isBlack(next, holder)) {
                next = State.greyIfWhite(next, to);
            }
            if (setup.hasBarrier(GREY_HOLDER_AGAIN)
                    && State.isBlack(next, holder) && State.isWhite(next, to)) {
                next = State.greyAgain(next, holder);
            }
            return State.withField(next, holder, f, to);
        }
    }

    /** What may be BROKEN in a STATE. Sets of OBJECTS are ints, a bit each. */
    private static final class Laws {
        private static final int LOST = 0;
        private static final int STRONG = 1;
        private static final int WEAK = 2;

        private static final int ALL = 15;

        static boolean isBroken(long s, int what) {
            switch (what) {
                case LOST: return State.isOver(s) && (needed(s) & State.whites(s)) != 0;
                case STRONG: return whitesIn(s, State.blacks(s)) != 0;
                case WEAK: return (whitesIn(s, State.blacks(s)) & ~whitesBehindGreys(s)) != 0;
                default: return State.isOver(s) && (State.blacks(s) & ~needed(s)) != 0;
            }
        }

        private static int needed(long s) {
            return closure(s, State.setInRoots(s), ALL);
        }

        private static int whitesIn(long s, int holders) {
            return State.setInFields(s, holders) & State.whites(s);
        }

        private static int whitesBehindGreys(long s) {
            return closure(s, whitesIn(s, State.greys(s)), State.whites(s));
        }

        /** A set and all that it leads to over FIELDS through OBJECTS of another set alone. */
        private static int closure(long s, int from, int through) {
            int reached = from;
            // A way without a loop has fewer steps than there are OBJECTS.
            for (int step = 1; step < MOST_OBJECTS; step++) {
                reached |= State.setInFields(s, reached) & through;
            }
            return reached;
        }
    }

    /**
     * Comes to STATES in breadth, acts rising, and keeps the way to the first BROKEN one. Its rows
     * are made once and used again by every search.
     */
    private static final class Search {
        private static final int NONE = -1;
        private static final int TOO_MANY = -2;
        private static final int GO_ON = -3;

        private static final int MOST_STATES = 20000;

        /**
         * 8 acts of the program, 3 LOOKS at ROOTS, 5 ENDS (each but the last greys a WHITE one), and 2
         * LOOKS at FIELDS for each time that an OBJECT becomes GREY: 4 times from WHITE, 8 from BLACK.
         */
        private static final int LONGEST_ROW = 40;

        /** A power of two well above MOST_STATES, so that a free slot is always near. */
        private static final int SLOTS = 32768;
        private static final int SLOT_SHIFT = 49;
        private static final long SPREADER = 0x9E3779B97F4A7C15L;

        private final Moves moves;
        private final long[] states = new long[MOST_STATES];

        /** For each STATE: the one that it was come to from, times 64, plus the act. */
        private final int[] origins = new int[MOST_STATES];

        /** Where a STATE stands in states, plus one; 0 is a free slot. */
        private final int[] slots = new int[SLOTS];

        int stateCount = 0;

        /** The ROW, of which the first rowLength count; rowLength never passes LONGEST_ROW. */
        final int[] row = new int[LONGEST_ROW];
        int rowLength = 0;

        Search(Moves moves) {
            this.moves = moves;
        }

        int shortestRow(long first, int what) {
            Arrays.fill(slots, 0);
            stateCount = 0;
            rowLength = 0;
            // Nothing is BROKEN in the first STATE: it is not over, and none is BLACK.
            keep(first, slotFor(first), 0, 0);
            for (int from = 0; from < stateCount && from < MOST_STATES; from++) {
                int outcome = goOnFrom(from, what);
                if (outcome != GO_ON) {
                    return outcome;
                }
            }
            return NONE;
        }

        private int goOnFrom(int from, int what) {
            long s = states[from];
            int last = moves.lastActToTry(s);
            for (int act = 0; act <= last; act++) {
                long next = moves.behind(s, act);
                if (next == Moves.IMPOSSIBLE) {
                    continue;
                }
                int slot = slotFor(next);
                if (slots[slot] != 0) {
                    continue;
                }
                if (!keep(next, slot, from, act)) {
                    return TOO_MANY;
                }
                if (Laws.isBroken(next, what)) {
                    keepRow();
                    return rowLength;
                }
            }
            return GO_ON;
        }

        /** Answers false, and keeps nothing, where it would be one more than MOST_STATES. */
        private boolean keep(long s, int slot, int from, int act) {
            if (stateCount >= MOST_STATES) {
                return false;
            }
            states[stateCount] = s;
            origins[stateCount] = from * 64 + act;
            stateCount++;
            slots[slot] = stateCount;
            return true;
        }

        /** The slot that has the STATE, or the free one where it belongs. */
        private int slotFor(long s) {
            int slot = (int) (s * SPREADER >>> SLOT_SHIFT);
            for (int tries = 0; tries < SLOTS; tries++) {
                int kept = slots[slot];
                if (kept == 0 || states[kept - 1] == s) {
                    return slot;
                }
                slot = slot + 1 & SLOTS - 1;
            }
            return slot;
        }

        /** The row of acts to the latest kept STATE. */
        private void keepRow() {
            int length = 0;
            for (int at = stateCount - 1; at > 0 && length < LONGEST_ROW; at = origins[at] / 64) {
                length++;
            }
            int at = stateCount - 1;
            for (int i = length - 1; i >= 0; i--) {
                row[i] = origins[at] % 64;
                at = origins[at] / 64;
            }
            rowLength = length;
        }
    }
}
