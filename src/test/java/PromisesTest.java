import java.util.Arrays;

/**
 * Each promise of the document by itself, with answers worked out by hand; but the set-ups at the
 * limit of 20000 STATES were searched for, and the counts of 396 and 585 STATES are too many for
 * that: ReferenceTest has its model answer both kinds too. No object gets more than 512 calls.
 */
public final class PromisesTest {
    private static final Class<?> ARGUMENT = IllegalArgumentException.class;
    private static final Class<?> STATE = IllegalStateException.class;
    private static final Class<?> INDEX = IndexOutOfBoundsException.class;

    private static final int LOOK = 0;
    private static final int END = 1;
    private static final int LOST = 0;
    private static final int STRONG = 1;
    private static final int WEAK = 2;
    private static final int FLOATING = 3;

    private static int wrong = 0;
    private static String promise = "";

    private static void due(String call, long got, long want) {
        if (got != want) {
            wrong++;
            System.out.println(promise + ": " + call + " answered " + got + ", due is " + want);
        }
    }

    private static void due(String call, boolean got, boolean want) {
        due(call, got ? 1 : 0, want ? 1 : 0);
    }

    private static void thrown(String call, Class<?> want, Runnable run) {
        Class<?> got = null;
        try {
            run.run();
        } catch (RuntimeException e) {
            got = e.getClass();
        }
        if (got != want) {
            wrong++;
            System.out.println(promise + ": " + call + " threw " + got + ", due is " + want);
        }
    }

    private static int copy(int a, int b) {
        return 2 + 3 * a + b;
    }

    private static int load(int a, int b, int f) {
        return 11 + 6 * a + 2 * b + f;
    }

    private static int store(int a, int b, int f) {
        return 29 + 6 * a + 2 * b + f;
    }

    private static int clear(int a) {
        return 47 + a;
    }

    private static void playAll(ColourTrier x, int... acts) {
        for (int act : acts) {
            x.play(act);
        }
    }

    private static void colours(String when, ColourTrier x, int... want) {
        for (int o = 0; o < want.length; o++) {
            due(when + ": colour(" + o + ")", x.colour(o), want[o]);
        }
    }

    private static void roots(String when, ColourTrier x, int... want) {
        for (int i = 0; i < want.length; i++) {
            due(when + ": has(" + i + ")", x.has(i), want[i]);
        }
    }

    private static void row(String when, ColourTrier x, int... want) {
        due(when + ": count(6)", x.count(6), want.length);
        for (int i = 0; i < want.length && i < x.count(6); i++) {
            due(when + ": act(" + i + ")", x.act(i), want[i]);
        }
        thrown(when + ": act(" + want.length + ")", INDEX, () -> x.act(want.length));
    }

    /** All that can be seen of an object, to tell whether a call changed something. */
    private static String seen(ColourTrier x) {
        StringBuilder b = new StringBuilder();
        int[] counts = new int[9];
        for (int what = 0; what < 9; what++) {
            counts[what] = x.count(what);
            b.append(counts[what]).append(' ');
        }
        for (int o = 0; o < counts[0]; o++) {
            b.append(x.colour(o)).append(':');
            for (int f = 0; f < counts[1]; f++) {
                b.append(x.field(o, f)).append(' ');
            }
        }
        for (int i = 0; i < counts[2]; i++) {
            b.append(x.has(i)).append(' ');
        }
        for (int i = 0; i < counts[6]; i++) {
            b.append(x.act(i)).append(' ');
        }
        return b.toString();
    }

    private static void refused(String call, Class<?> want, ColourTrier x, Runnable run) {
        String before = seen(x);
        thrown(call, want, run);
        if (!before.equals(seen(x))) {
            wrong++;
            System.out.println(promise + ": " + call + " threw and changed something");
        }
    }

    /** OBJECT 0 has 1 in FIELD 0, OBJECT 1 has 2 in FIELD 1; ROOT 0 has 0, ROOT 1 NOTHING. */
    private static ColourTrier chain(int barriers, int acts) {
        ColourTrier x = new ColourTrier();
        x.size(3, 2, 2);
        x.root(0, 0);
        x.point(0, 0, 1);
        x.point(1, 1, 2);
        x.rules(barriers, acts);
        return x;
    }

    /** A set-up with one FIELD each: links.length OBJECTS, then what ROOTS have. */
    private static ColourTrier simple(int barriers, int acts, int[] links, int... roots) {
        ColourTrier x = new ColourTrier();
        x.size(links.length, 1, roots.length);
        x.rules(barriers, acts);
        for (int o = 0; o < links.length; o++) {
            x.point(o, 0, links[o]);
        }
        for (int i = 0; i < roots.length; i++) {
            x.root(i, roots[i]);
        }
        return x;
    }

    private static int[] links(int... to) {
        return to;
    }

    /** A chain in the middle of a play, with a found row: for calls that must change nothing. */
    private static ColourTrier busy() {
        ColourTrier x = chain(16, 5);
        x.find(FLOATING);
        playAll(x, LOOK, load(1, 0, 0), LOOK);
        return x;
    }

    private static void newObject() {
        ColourTrier x = new ColourTrier();
        int[] counts = {1, 1, 1, 0, 0, 0, 0, 0, 0};
        for (int what = 0; what < counts.length; what++) {
            due("count(" + what + ")", x.count(what), counts[what]);
        }
        due("field(0, 0)", x.field(0, 0), -1);
        due("has(0)", x.has(0), -1);
        due("colour(0)", x.colour(0), 0);
        for (int what = 0; what < 4; what++) {
            due("broken(" + what + ")", x.broken(what), false);
        }
        thrown("act(0)", INDEX, () -> x.act(0));
        due("play(LOOK)", x.play(LOOK), 1);
        due("play(END)", x.play(END), 0);
        due("again()", x.again(), 1);
    }

    private static void size() {
        ColourTrier x = chain(5, 7);
        playAll(x, LOOK, LOOK);
        x.size(4, 1, 3);
        int[] counts = {4, 1, 3, 5, 7};
        for (int what = 0; what < counts.length; what++) {
            due("count(" + what + ") behind size(4, 1, 3)", x.count(what), counts[what]);
        }
        colours("behind size", x, 0, 0, 0, 0);
        roots("behind size", x, -1, -1, -1);
        for (int o = 0; o < 4; o++) {
            due("field(" + o + ", 0)", x.field(o, 0), -1);
        }
        x.play(LOOK);
        thrown("END with one ROOT of three looked at", STATE, () -> x.play(END));
        x.root(2, 3);
        x.point(3, 0, 2);
        playAll(x, LOOK, copy(0, 2));
        x.size(4, 1, 3);
        due("has(2) behind the same size again", x.has(2), -1);
        due("field(3, 0) behind the same size again", x.field(3, 0), -1);
        due("count(8) behind the same size again", x.count(8), 7);
        x.size(1, 1, 1);
        x.size(4, 2, 3);
        due("has(2) behind less and more", x.has(2), -1);
        int[][] bad = {{0, 1, 1}, {5, 1, 1}, {1, 0, 1}, {1, 3, 1}, {1, 1, 0}, {1, 1, 4}, {-1, 1, 1},
            {4, 2, Integer.MAX_VALUE}, {Integer.MIN_VALUE, 2, 3}};
        for (int[] b : bad) {
            ColourTrier y = busy();
            refused("size" + Arrays.toString(b), ARGUMENT, y, () -> y.size(b[0], b[1], b[2]));
        }
    }

    private static void point() {
        ColourTrier x = chain(0, 3);
        playAll(x, LOOK, store(0, 0, 0));
        x.point(2, 1, 0);
        due("field(2, 1)", x.field(2, 1), 0);
        due("field(0, 0): what a STORE changed is as at first", x.field(0, 0), 1);
        due("field(2, 0)", x.field(2, 0), -1);
        colours("behind point", x, 0, 0, 0);
        due("count(8)", x.count(8), 3);
        x.point(0, 0, -1);
        due("field(0, 0) behind point(0, 0, -1)", x.field(0, 0), -1);
        x.point(0, 0, 0);
        due("field(0, 0) behind point(0, 0, 0)", x.field(0, 0), 0);
        playAll(x, LOOK);
        x.again();
        due("field(0, 0) behind again", x.field(0, 0), 0);
        int[][] bad = {{-1, 0, 0}, {3, 0, 0}, {0, -1, 0}, {0, 2, 0}, {0, 0, -2}, {0, 0, 3},
            {Integer.MAX_VALUE, 0, 0}, {0, 0, Integer.MIN_VALUE}};
        for (int[] b : bad) {
            ColourTrier y = busy();
            refused("point" + Arrays.toString(b), ARGUMENT, y, () -> y.point(b[0], b[1], b[2]));
        }
    }

    private static void root() {
        ColourTrier x = chain(0, 3);
        playAll(x, LOOK, clear(0));
        x.root(1, 2);
        roots("behind root(1, 2)", x, 0, 2);
        colours("behind root(1, 2)", x, 0, 0, 0);
        due("count(8)", x.count(8), 3);
        x.root(0, -1);
        roots("behind root(0, -1)", x, -1, 2);
        x.root(0, 2);
        roots("behind root(0, 2)", x, 2, 2);
        due("field(0, 0) stays", x.field(0, 0), 1);
        int[][] bad = {{-1, 0}, {2, 0}, {0, -2}, {0, 3}, {Integer.MIN_VALUE, 0}, {0, Integer.MAX_VALUE}};
        for (int[] b : bad) {
            ColourTrier y = busy();
            refused("root" + Arrays.toString(b), ARGUMENT, y, () -> y.root(b[0], b[1]));
        }
    }

    private static void rules() {
        ColourTrier x = chain(0, 3);
        playAll(x, LOOK, clear(0));
        x.rules(127, 8);
        due("count(3)", x.count(3), 127);
        due("count(4)", x.count(4), 8);
        due("count(8)", x.count(8), 8);
        roots("behind rules", x, 0, -1);
        colours("behind rules", x, 0, 0, 0);
        due("field(1, 1) stays", x.field(1, 1), 2);
        x.rules(0, 0);
        due("count(3)", x.count(3), 0);
        due("count(4)", x.count(4), 0);
        thrown("CLEAR without acts", STATE, () -> x.play(clear(0)));
        int[][] bad = {{-1, 0}, {128, 0}, {0, -1}, {0, 9}, {Integer.MAX_VALUE, 0}, {0, Integer.MIN_VALUE}};
        for (int[] b : bad) {
            ColourTrier y = busy();
            refused("rules" + Arrays.toString(b), ARGUMENT, y, () -> y.rules(b[0], b[1]));
        }
    }

    private static void find() {
        ColourTrier x = simple(0, 0, links(-1), 0);
        // LOOK at the ROOT, LOOK at the FIELD, END: four STATES, nothing BROKEN.
        for (int what = 0; what < 4; what++) {
            due("find(" + what + ") without acts", x.find(what), -1);
            due("its STATES", x.count(5), 4);
            row("none", x);
        }
        // The ROOT must be looked at first; loading NOTHING (11) then does what CLEAR (47) does.
        x.rules(0, 1);
        due("find(FLOATING) with one act", x.find(FLOATING), 4);
        row("floating", x, LOOK, LOOK, load(0, 0, 0), END);
        due("find(LOST) with one act", x.find(LOST), -1);
        row("none behind one", x);
        findLost();
        findLawsBroken();
        findAtTheLimit();
        findLeavesTheState();
        for (int bad : new int[] {-1, 4, Integer.MIN_VALUE, Integer.MAX_VALUE}) {
            ColourTrier y = busy();
            refused("find(" + bad + ")", ARGUMENT, y, () -> y.find(bad));
        }
    }

    /** What ROOT 1 has goes to ROOT 0, that was looked at, and away from ROOT 1, that was not. */
    private static void findLost() {
        ColourTrier x = simple(0, 2, links(-1), -1, 0);
        due("find(LOST)", x.find(LOST), 5);
        row("lost", x, LOOK, copy(0, 1), load(1, 0, 0), LOOK, END);
        for (int act = 0; act < 5; act++) {
            due("broken(LOST) before act " + act, x.broken(LOST), false);
            x.play(x.act(act));
        }
        due("broken(LOST) behind the row", x.broken(LOST), true);
        for (int barriers : new int[] {16, 32, 64, 127}) {
            x.rules(barriers, 2);
            due("find(LOST) with barriers " + barriers, x.find(LOST), -1);
        }
        for (int barriers : new int[] {1, 2, 4, 8, 15}) {
            x.rules(barriers, 2);
            due("find(LOST) with barriers " + barriers, x.find(LOST), 5);
        }
        x.rules(0, 1);
        due("find(LOST) with one act", x.find(LOST), -1);
    }

    private static void findLawsBroken() {
        // OBJECT 1 leaves the FIELD of OBJECT 0 and comes back when that is BLACK.
        ColourTrier x = simple(0, 3, links(1, -1), 0, -1);
        for (int law : new int[] {STRONG, WEAK}) {
            due("find(" + law + ")", x.find(law), 6);
            row("law " + law, x, LOOK, LOOK, load(1, 0, 0), store(0, 0, 0), LOOK, store(0, 1, 0));
        }
        for (int barriers : new int[] {1, 2, 4, 8, 16}) {
            x.rules(barriers, 3);
            due("find(STRONG) with barriers " + barriers, x.find(STRONG), -1);
            due("find(WEAK) with barriers " + barriers, x.find(WEAK), -1);
        }
        // OBJECT 1 is GREY and has OBJECT 2 all the while.
        ColourTrier y = simple(0, 2, links(-1, 2, -1), 0, 1);
        due("find(STRONG) beside a GREY one", y.find(STRONG), 5);
        row("strong", y, LOOK, LOOK, LOOK, load(1, 1, 0), store(0, 1, 0));
        due("find(WEAK) beside a GREY one", y.find(WEAK), -1);
        row("weak", y);
    }

    private static void findAtTheLimit() {
        ColourTrier all = simple(38, 8, links(0, 0), 1, 1, 0);
        due("find(LOST) with 20000 STATES in all", all.find(LOST), -1);
        due("count(5)", all.count(5), 20000);
        ColourTrier more = simple(40, 8, links(1, 1), 0, 0, 1);
        due("find(LOST) with 20001 STATES in all", more.find(LOST), -2);
        due("count(5)", more.count(5), 20000);
        row("too many", more);
        ColourTrier next = simple(2, 4, links(0, 1, 2), 0, 1, 2);
        due("find(LOST) that would come to it as STATE 20001", next.find(LOST), -2);
        due("count(5)", next.count(5), 20000);
        row("one too many", next);
        ColourTrier last = new ColourTrier();
        last.size(3, 2, 3);
        last.rules(32, 5);
        last.point(0, 0, 0);
        last.point(1, 0, 1);
        last.point(2, 1, 2);
        last.root(0, 1);
        last.root(1, 2);
        last.root(2, 1);
        due("find(STRONG) that comes to it as STATE 20000", last.find(STRONG), 8);
        due("count(5)", last.count(5), 20000);
        due("count(6)", last.count(6), 8);
        due("find(STRONG) again", last.find(STRONG), 8);
        due("count(5) again", last.count(5), 20000);
    }

    private static void findLeavesTheState() {
        ColourTrier x = chain(0, 2);
        due("find(LOST)", x.find(LOST), 7);
        due("count(5)", x.count(5), 396);
        playAll(x, LOOK, LOOK, clear(0));
        String before = seen(x);
        due("find(LOST) from the middle of a play", x.find(LOST), 7);
        due("the find changed nothing", before.equals(seen(x)), true);
    }

    private static void act() {
        ColourTrier x = chain(0, 2);
        thrown("act(0) before a find", INDEX, () -> x.act(0));
        x.find(LOST);
        row("lost", x, LOOK, LOOK, load(1, 0, 0), store(0, 0, 0), LOOK, LOOK, END);
        for (int bad : new int[] {-1, 7, 40, Integer.MIN_VALUE, Integer.MAX_VALUE}) {
            refused("act(" + bad + ")", INDEX, x, () -> x.act(bad));
        }
        x.play(LOOK);
        x.again();
        x.rules(0, 0);
        x.point(0, 0, -1);
        x.root(0, -1);
        x.size(1, 1, 1);
        row("the latest find's, whatever came since", x, LOOK, LOOK, load(1, 0, 0), store(0, 0, 0), LOOK, LOOK, END);
        due("count(5) stays too", x.count(5), 396);
        x.find(LOST);
        thrown("act(0) behind a find of none", INDEX, () -> x.act(0));
    }

    private static void play() {
        for (int bad : new int[] {-1, 50, Integer.MIN_VALUE, Integer.MAX_VALUE}) {
            ColourTrier x = busy();
            refused("play(" + bad + ")", ARGUMENT, x, () -> x.play(bad));
        }
        playLooks();
        playRoots();
        playFields();
        playBeyondTheSetUp();
        playToTheEnd();
        storeBarriers();
        holderAgain();
        rootBarriers();
        endBarrier();
    }

    /** OBJECT 1 has 0 and 2: 0 is less and comes first, though 1 is only half looked at. */
    private static void playLooks() {
        ColourTrier x = new ColourTrier();
        x.size(3, 2, 1);
        x.root(0, 1);
        x.point(1, 0, 0);
        x.point(1, 1, 2);
        int[][] want = {{0, 1, 0}, {1, 1, 0}, {1, 1, 0}, {2, 1, 0}, {2, 2, 1}, {2, 2, 1}, {2, 2, 2}};
        for (int step = 0; step < want.length; step++) {
            due("LOOK " + step, x.play(LOOK), 1);
            colours("LOOK " + step, x, want[step]);
        }
        refused("LOOK with none left", STATE, x, () -> x.play(LOOK));
    }

    private static void playRoots() {
        ColourTrier x = simple(0, 8, links(1, 2, -1), 0, 1, -1);
        due("COPY", x.play(copy(2, 0)), 1 + 6 + 9 + 9 + 3);
        roots("COPY", x, 0, 1, 0);
        x.play(copy(0, 1));
        roots("COPY", x, 1, 1, 0);
        x.again();
        x.play(copy(1, 2));
        roots("COPY of NOTHING", x, 0, -1, -1);
        x.again();
        x.play(load(2, 0, 0));
        roots("LOAD", x, 0, 1, 1);
        x.play(load(2, 2, 0));
        roots("LOAD over itself", x, 0, 1, 2);
        x.play(load(1, 2, 0));
        roots("LOAD of NOTHING", x, 0, -1, 2);
        refused("LOAD from NOTHING", STATE, x, () -> x.play(load(0, 1, 0)));
        x.play(clear(2));
        roots("CLEAR", x, 0, -1, -1);
        x.play(clear(2));
        roots("CLEAR again", x, 0, -1, -1);
        due("count(8)", x.count(8), 3);
        for (int a = 0; a < 3; a++) {
            int same = a;
            refused("COPY to itself", STATE, x, () -> x.play(copy(same, same)));
        }
        colours("without barriers", x, 0, 0, 0);
    }

    private static void playFields() {
        ColourTrier x = chain(0, 8);
        x.root(1, 2);
        x.play(store(0, 1, 1));
        due("STORE: field(0, 1)", x.field(0, 1), 2);
        due("STORE: field(0, 0)", x.field(0, 0), 1);
        x.play(store(1, 1, 0));
        due("STORE of itself: field(2, 0)", x.field(2, 0), 2);
        x.play(load(0, 1, 1));
        roots("LOAD of FIELD 1", x, -1, 2);
        refused("STORE into NOTHING", STATE, x, () -> x.play(store(0, 1, 0)));
        x.play(store(1, 0, 0));
        due("STORE of NOTHING: field(2, 0)", x.field(2, 0), -1);
        due("count(8)", x.count(8), 4);
        colours("without barriers", x, 0, 0, 0);
    }

    /** Numbers 0 .. 49 that name a ROOT or FIELD which the set-up lacks can not be done. */
    private static void playBeyondTheSetUp() {
        int possible = 0;
        for (int act = 0; act < 50; act++) {
            int tried = act;
            ColourTrier x = simple(0, 8, links(0), 0);
            if (act == LOOK || act == load(0, 0, 0) || act == store(0, 0, 0) || act == clear(0)) {
                x.play(act);
                possible++;
            } else {
                refused("play(" + act + ") with one ROOT and FIELD", STATE, x, () -> x.play(tried));
            }
        }
        ColourTrier y = simple(0, 8, links(0), 0);
        due("again()", y.again(), possible);
        y.size(1, 2, 2);
        refused("COPY from ROOT 2 of 2", STATE, y, () -> y.play(copy(0, 2)));
        refused("CLEAR of ROOT 2 of 2", STATE, y, () -> y.play(clear(2)));
    }

    private static void playToTheEnd() {
        ColourTrier x = simple(0, 1, links(-1), 0);
        due("again()", x.again(), 4);
        refused("END with a ROOT to look at", STATE, x, () -> x.play(END));
        due("LOOK", x.play(LOOK), 4);
        refused("END with a GREY one", STATE, x, () -> x.play(END));
        due("LOOK", x.play(LOOK), 4);
        due("STORE, the last act", x.play(store(0, 0, 0)), 1);
        refused("CLEAR with no act left", STATE, x, () -> x.play(clear(0)));
        due("END", x.play(END), 0);
        x.again();
        playAll(x, LOOK, LOOK, END);
        due("count(8) at the end", x.count(8), 1);
        for (int act = 0; act < 50; act++) {
            int tried = act;
            ColourTrier over = simple(0, 1, links(-1), 0);
            playAll(over, LOOK, LOOK, END);
            refused("play(" + act + ") when it is over", STATE, over, () -> over.play(tried));
        }
    }

    private static void storeBarriers() {
        ColourTrier x = chain(1, 8);
        x.play(store(0, 0, 1));
        colours("1, OLD is NOTHING", x, 0, 0, 0);
        x.play(store(0, 0, 0));
        colours("1, OLD is WHITE", x, 0, 1, 0);
        x = chain(2, 8);
        x.play(store(0, 1, 1));
        colours("2, NEW is NOTHING", x, 0, 0, 0);
        x.play(store(0, 0, 1));
        colours("2, NEW is WHITE", x, 1, 0, 0);
        // OBJECT 0 is BLACK behind four LOOKS, OBJECT 1 GREY.
        for (int barrier : new int[] {1, 2, 4, 8}) {
            x = chain(barrier, 8);
            playAll(x, LOOK, LOOK, LOOK, LOOK, store(0, 0, 0));
            colours(barrier + ", OLD is GREY and NEW BLACK", x, 2, 1, 0);
        }
        x = simple(4, 8, links(-1, -1, 2), 0, -1, 2);
        x.play(store(0, 2, 0));
        colours("4, X is WHITE", x, 0, 0, 0);
        x = blackWithWhiteAtHand(4);
        x.play(store(0, 1, 1));
        colours("4, X is BLACK", x, 2, 1, 0, 1);
        x = blackWithWhiteAtHand(0);
        x.play(store(0, 1, 1));
        colours("none, X is BLACK", x, 2, 1, 0, 0);
        x = blackWithWhiteAtHand(2);
        x.play(store(0, 1, 1));
        colours("2, X is BLACK", x, 2, 1, 0, 1);
    }

    /** OBJECT 0 is BLACK, 1 GREY, none of its FIELDS looked at, 2 and 3 WHITE; ROOT 0 has 0, ROOT 1 has 3. */
    private static ColourTrier blackWithWhiteAtHand(int barriers) {
        ColourTrier x = new ColourTrier();
        x.size(4, 2, 2);
        x.rules(barriers, 8);
        x.root(0, 0);
        x.root(1, 1);
        x.point(1, 0, 2);
        x.point(1, 1, 3);
        playAll(x, LOOK, LOOK, LOOK, LOOK, load(1, 1, 1));
        return x;
    }

    private static void holderAgain() {
        ColourTrier x = blackWithWhiteAtHand(8);
        x.play(store(0, 1, 1));
        colours("8, X is BLACK and NEW WHITE", x, 1, 1, 0, 0);
        x.play(LOOK);
        colours("X is looked at from FIELD 0 on", x, 1, 1, 0, 0);
        x.play(LOOK);
        colours("X is BLACK again", x, 2, 1, 0, 1);
        x.play(store(0, 1, 0));
        colours("8, NEW is GREY", x, 2, 1, 0, 1);
        x = blackWithWhiteAtHand(8);
        playAll(x, clear(1), store(0, 1, 0));
        colours("8, NEW is NOTHING", x, 2, 1, 0, 0);
        for (int earlier : new int[] {2, 4}) {
            x = blackWithWhiteAtHand(8 + earlier);
            x.play(store(0, 1, 1));
            colours(earlier + " before 8", x, 2, 1, 0, 1);
        }
        oldThatIsNew();
    }

    /** X gets a WHITE one while GREY, in a FIELD looked at; the same again when it is BLACK: 1 comes before 8. */
    private static void oldThatIsNew() {
        for (int barriers : new int[] {8, 9}) {
            ColourTrier x = chain(barriers, 8);
            playAll(x, LOOK, LOOK, LOOK, load(1, 0, 0), load(1, 1, 1), store(0, 1, 0), LOOK);
            colours("BLACK, with a WHITE one", x, 2, 1, 0);
            x.play(store(0, 1, 0));
            colours("OLD is NEW, barriers " + barriers, x, barriers == 8 ? 1 : 2, 1, barriers == 8 ? 0 : 1);
        }
    }

    private static void rootBarriers() {
        int[] acts = {copy(0, 1), load(0, 1, 0), clear(0), store(0, 1, 0)};
        int[][] with0 = {{0, 0, 0}, {0, 0, 0}, {0, 0, 0}, {0, 0, 0}};
        int[][] with16 = {{0, 1, 0}, {0, 0, 1}, {0, 0, 0}, {0, 0, 0}};
        int[][] with64 = {{1, 0, 0}, {1, 0, 0}, {1, 0, 0}, {0, 0, 0}};
        int[][] with80 = {{1, 1, 0}, {1, 0, 1}, {1, 0, 0}, {0, 0, 0}};
        for (int n = 0; n < acts.length; n++) {
            ColourTrier x = simple(0, 8, links(-1, 2, -1), 0, 1);
            x.play(acts[n]);
            colours("no barrier, act " + acts[n], x, with0[n]);
            x.rules(16, 8);
            x.play(acts[n]);
            colours("16, act " + acts[n], x, with16[n]);
            x.rules(64, 8);
            x.play(acts[n]);
            colours("64, act " + acts[n], x, with64[n]);
            x.rules(80, 8);
            x.play(acts[n]);
            colours("64 and 16, act " + acts[n], x, with80[n]);
        }
        ColourTrier y = simple(80, 8, links(-1), 0, -1);
        playAll(y, LOOK, LOOK, LOOK, copy(1, 0), clear(0));
        colours("BLACK stays BLACK", y, 2);
        playAll(y, copy(1, 0), clear(1));
        roots("NOTHING had and got", y, -1, -1);
    }

    private static void endBarrier() {
        ColourTrier x = simple(32, 4, links(-1, -1, -1), -1, 0, 1);
        // OBJECT 1 goes from ROOT 2, that was not looked at, to ROOT 0, that was.
        playAll(x, LOOK, copy(0, 2), clear(2), LOOK, LOOK, LOOK);
        colours("before END", x, 2, 0, 0);
        x.play(END);
        colours("END greys what ROOTS have", x, 2, 1, 0);
        due("count(7): not over", x.count(7), 0);
        due("count(8): END is no act of the program", x.count(8), 2);
        refused("END with a GREY one", STATE, x, () -> x.play(END));
        playAll(x, LOOK, END);
        due("count(7): over", x.count(7), 1);
        colours("over", x, 2, 2, 0);
    }

    private static void again() {
        ColourTrier x = chain(64, 3);
        due("again() at first", x.again(), 13);
        playAll(x, LOOK, LOOK, store(0, 0, 1), clear(0), LOOK);
        due("again()", x.again(), 13);
        colours("again", x, 0, 0, 0);
        roots("again", x, 0, -1);
        due("field(0, 0)", x.field(0, 0), 1);
        due("field(0, 1)", x.field(0, 1), -1);
        due("count(8)", x.count(8), 3);
        x.rules(0, 0);
        playAll(x, LOOK, LOOK, LOOK, LOOK, LOOK, LOOK, LOOK, LOOK, END);
        due("over", x.count(7), 1);
        due("again() when it was over", x.again(), 1);
        due("no more over", x.count(7), 0);
        x.play(LOOK);
        colours("ROOT 0 is the next to look at", x, 1, 0, 0);
    }

    private static void laws(String when, ColourTrier x, boolean lost, boolean strong, boolean weak, boolean floating) {
        due(when + ": broken(LOST)", x.broken(LOST), lost);
        due(when + ": broken(STRONG)", x.broken(STRONG), strong);
        due(when + ": broken(WEAK)", x.broken(WEAK), weak);
        due(when + ": broken(FLOATING)", x.broken(FLOATING), floating);
    }

    private static void broken() {
        // BLACK 0 gets 3; GREY 1 has it too.
        ColourTrier x = blackWithWhiteAtHand(0);
        laws("a WHITE one at hand", x, false, false, false, false);
        x.play(store(0, 1, 1));
        laws("BLACK has WHITE, GREY leads there", x, false, true, false, false);
        // Over WHITE 2 alone GREY 1 leads to 3, not over BLACK 0.
        ColourTrier y = simple(0, 8, links(-1, 2, 3, -1), 0, 1, -1);
        playAll(y, LOOK, LOOK, LOOK, LOOK, load(2, 1, 0), load(2, 2, 0), store(0, 2, 0));
        laws("BLACK has WHITE, GREY leads there over a WHITE one", y, false, true, false, false);
        y.play(LOOK);
        laws("GREY 2 leads there", y, false, true, false, false);
        playAll(y, LOOK, LOOK, END);
        laws("all BLACK; 1 is still in ROOT 1", y, false, false, false, false);
        weakBehindBlack();
        lostOverFields();
        floating();
        for (int bad : new int[] {-1, 4, Integer.MIN_VALUE, Integer.MAX_VALUE}) {
            ColourTrier z = busy();
            refused("broken(" + bad + ")", ARGUMENT, z, () -> z.broken(bad));
        }
    }

    /** GREY 3 has BLACK 0, which has WHITE 2: no way over WHITE ones alone. */
    private static void weakBehindBlack() {
        ColourTrier x = simple(0, 8, links(-1, 2, -1, 0), 0, 1, 3);
        playAll(x, LOOK, LOOK, LOOK, LOOK, load(2, 1, 0), store(1, 0, 0));
        laws("before", x, false, false, false, false);
        x.play(store(0, 2, 0));
        laws("GREY 3 leads there over BLACK 0 alone", x, false, true, true, false);
        x.play(load(2, 0, 0));
        playAll(x, LOOK, LOOK);
        laws("not over", x, false, true, true, false);
        x.play(END);
        laws("over: 2 is lost, 3 floats", x, true, true, true, true);
    }

    /** OBJECT 2 is lost behind 1, which is lost behind BLACK 0. */
    private static void lostOverFields() {
        ColourTrier x = simple(0, 8, links(1, 2, -1), 0, -1);
        playAll(x, LOOK, LOOK, load(1, 0, 0), store(0, 0, 0), LOOK, store(0, 1, 0), clear(1));
        laws("not over", x, false, true, true, false);
        x.play(END);
        laws("over", x, true, true, true, false);
        // Without the way from OBJECT 0 the others are WHITE and not needed.
        x.again();
        playAll(x, LOOK, LOOK, store(0, 0, 0), LOOK, END);
        laws("WHITE and not needed", x, false, false, false, false);
    }

    private static void floating() {
        ColourTrier x = simple(0, 2, links(1, -1), 0);
        playAll(x, LOOK, LOOK, LOOK, load(0, 0, 0));
        laws("BLACK and not needed, not over", x, false, false, false, false);
        x.play(END);
        laws("over", x, false, false, false, true);
        x.again();
        playAll(x, LOOK, LOOK, LOOK, END);
        laws("BLACK and needed over a FIELD", x, false, false, false, false);
    }

    private static void colour() {
        ColourTrier x = chain(0, 0);
        colours("at first", x, 0, 0, 0);
        playAll(x, LOOK, LOOK, LOOK, LOOK);
        colours("behind four LOOKS", x, 2, 1, 0);
        for (int bad : new int[] {-1, 3, 4, Integer.MIN_VALUE, Integer.MAX_VALUE}) {
            refused("colour(" + bad + ")", ARGUMENT, x, () -> x.colour(bad));
        }
    }

    private static void field() {
        ColourTrier x = chain(0, 1);
        int[][] want = {{1, -1}, {-1, 2}, {-1, -1}};
        for (int o = 0; o < 3; o++) {
            for (int f = 0; f < 2; f++) {
                due("field(" + o + ", " + f + ")", x.field(o, f), want[o][f]);
            }
        }
        x.play(store(0, 0, 1));
        due("field(0, 1) behind a STORE", x.field(0, 1), 0);
        int[][] bad = {{-1, 0}, {3, 0}, {0, -1}, {0, 2}, {Integer.MAX_VALUE, 0}, {0, Integer.MIN_VALUE}};
        for (int[] b : bad) {
            refused("field" + Arrays.toString(b), ARGUMENT, x, () -> x.field(b[0], b[1]));
        }
        ColourTrier y = new ColourTrier();
        refused("field(0, 1) with one FIELD", ARGUMENT, y, () -> y.field(0, 1));
    }

    private static void has() {
        ColourTrier x = chain(0, 1);
        roots("at first", x, 0, -1);
        x.play(load(1, 0, 0));
        roots("behind a LOAD", x, 0, 1);
        for (int bad : new int[] {-1, 2, 3, Integer.MIN_VALUE, Integer.MAX_VALUE}) {
            refused("has(" + bad + ")", ARGUMENT, x, () -> x.has(bad));
        }
    }

    private static void count() {
        ColourTrier x = chain(65, 4);
        x.root(1, 1);
        due("count(0)", x.count(0), 3);
        due("count(1)", x.count(1), 2);
        due("count(2)", x.count(2), 2);
        due("count(3)", x.count(3), 65);
        due("count(4)", x.count(4), 4);
        due("count(5)", x.count(5), 0);
        due("count(6)", x.count(6), 0);
        playAll(x, clear(1), clear(1), LOOK);
        due("count(4) behind two acts", x.count(4), 4);
        due("count(8) behind two acts", x.count(8), 2);
        due("count(7)", x.count(7), 0);
        x.rules(0, 0);
        // LOOK at 2 ROOTS and 3 times 2 FIELDS, END: ten STATES in a row.
        x.find(STRONG);
        due("count(5) behind a find", x.count(5), 10);
        playAll(x, LOOK, LOOK, LOOK, LOOK, LOOK, LOOK, LOOK, LOOK, END);
        due("count(7) when it is over", x.count(7), 1);
        due("count(8) without acts", x.count(8), 0);
        for (int bad : new int[] {-1, 9, Integer.MIN_VALUE, Integer.MAX_VALUE}) {
            refused("count(" + bad + ")", ARGUMENT, x, () -> x.count(bad));
        }
    }

    /** What README.md says that its example answers. */
    private static void readmeExample() {
        ColourTrier x = chain(0, 2);
        due("find(LOST)", x.find(LOST), 7);
        row("of the example", x, 0, 0, 17, 29, 0, 0, 1);
        for (int i = 0; i < 7; i++) {
            x.play(x.act(i));
        }
        due("broken(LOST)", x.broken(LOST), true);
        due("has(1)", x.has(1), 1);
        due("colour(1)", x.colour(1), 0);
        x.again();
        x.rules(1, 2);
        due("find(LOST) with BARRIER 1", x.find(LOST), -1);
        due("count(5)", x.count(5), 585);
    }

    private static void run(String name, Runnable test) {
        promise = name;
        try {
            test.run();
        } catch (RuntimeException e) {
            wrong++;
            System.out.println(promise + ": ended by " + e + " at " + Arrays.toString(e.getStackTrace()));
        }
    }

    public static void main(String[] args) {
        run("promise 1, a new object", PromisesTest::newObject);
        run("promise 2, size", PromisesTest::size);
        run("promise 3, point", PromisesTest::point);
        run("promise 4, root", PromisesTest::root);
        run("promise 5, rules", PromisesTest::rules);
        run("promise 6, find", PromisesTest::find);
        run("promise 7, act", PromisesTest::act);
        run("promise 8, play", PromisesTest::play);
        run("promise 9, again", PromisesTest::again);
        run("promise 10, broken", PromisesTest::broken);
        run("promise 11, colour", PromisesTest::colour);
        run("promise 12, field", PromisesTest::field);
        run("promise 13, has", PromisesTest::has);
        run("promise 14, count", PromisesTest::count);
        run("the example of README.md", PromisesTest::readmeExample);
        System.out.println(wrong == 0 ? "all answers are as due" : wrong + " answers are not as due");
        if (wrong != 0) {
            System.exit(1);
        }
    }
}
