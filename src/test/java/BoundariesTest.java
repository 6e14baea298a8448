import java.util.Arrays;
import java.util.List;
import java.util.function.Consumer;
import java.util.function.IntConsumer;

/**
 * Each sentence of the document that names a boundary case, under its own words, with answers
 * worked out by hand; the set-ups at the limit of 20000 STATES were searched for, and ReferenceTest
 * has its model answer them too. That a call which throws changes nothing is tried in RefusalsTest.
 * No object gets more than 512 calls.
 */
public final class BoundariesTest {
    private static final Class<?> ARGUMENT = IllegalArgumentException.class;
    private static final Class<?> STATE = IllegalStateException.class;
    private static final Class<?> INDEX = IndexOutOfBoundsException.class;

    private static final int LOOK = 0;
    private static final int END = 1;
    private static final int LOST = 0;
    private static final int STRONG = 1;
    private static final int WEAK = 2;
    private static final int FLOATING = 3;

    private static int wrong = 0;
    private static String sentence = "";

    private static void fault(String text) {
        wrong++;
        System.out.println("\"" + sentence + "\": " + text);
    }

    private static void due(String call, long got, long want) {
        if (got != want) {
            fault(call + " answered " + got + ", due is " + want);
        }
    }

    private static void due(String call, boolean got, boolean want) {
        if (got != want) {
            fault(call + " answered " + got + ", due is " + want);
        }
    }

    private static void thrown(String call, Class<?> want, Runnable run) {
        Class<?> got = null;
        try {
            run.run();
        } catch (RuntimeException e) {
            got = e.getClass();
        }
        if (got != want) {
            fault(call + " threw " + got + ", due is " + want);
        }
    }

    /** All from the least to the greatest are taken; those beside them and the ends of int are refused. */
    private static void range(String call, int least, int greatest, IntConsumer run) {
        for (int n = least; n <= greatest; n++) {
            int taken = n;
            thrown(call + " with " + n, null, () -> run.accept(taken));
        }
        for (int n : new int[] {least - 1, greatest + 1, Integer.MIN_VALUE, Integer.MAX_VALUE}) {
            thrown(call + " with " + n, ARGUMENT, () -> run.accept(n));
        }
    }

    private static int copy(int a, int b) {
        return 2 + 3 * a + b;
    }

    private static int load(int a, int b, int f) {
        return 11 + 6 * a + 2 * b + f;
    }

    private static int store(int a, int b, int f) {
        return 29 + 6 * a + 2 * b + f;
    }

    private static int clear(int a) {
        return 47 + a;
    }

    private static void playAll(ColourTrier x, int... acts) {
        for (int act : acts) {
            x.play(act);
        }
    }

    private static void looks(ColourTrier x, int times) {
        for (int n = 0; n < times; n++) {
            x.play(LOOK);
        }
    }

    private static void colours(String when, ColourTrier x, int... want) {
        int[] got = new int[want.length];
        for (int o = 0; o < want.length; o++) {
            got[o] = x.colour(o);
        }
        if (!Arrays.equals(got, want)) {
            fault(when + ": colours " + Arrays.toString(got) + ", due are " + Arrays.toString(want));
        }
    }

    private static void laws(String when, ColourTrier x, boolean lost, boolean strong, boolean weak, boolean floating) {
        due(when + ": broken(LOST)", x.broken(LOST), lost);
        due(when + ": broken(STRONG)", x.broken(STRONG), strong);
        due(when + ": broken(WEAK)", x.broken(WEAK), weak);
        due(when + ": broken(FLOATING)", x.broken(FLOATING), floating);
    }

    /** An empty ROW: its number of acts is 0, and no act of it can be asked for. */
    private static void noRow(String when, ColourTrier x) {
        due(when + ": count(6)", x.count(6), 0);
        for (int i : new int[] {-1, 0, 1, 39, 40, Integer.MIN_VALUE, Integer.MAX_VALUE}) {
            thrown(when + ": act(" + i + ")", INDEX, () -> x.act(i));
        }
    }

    private static void row(String when, ColourTrier x, int... want) {
        due(when + ": count(6)", x.count(6), want.length);
        for (int i = 0; i < want.length && i < x.count(6); i++) {
            due(when + ": act(" + i + ")", x.act(i), want[i]);
        }
        for (int i : new int[] {-1, want.length, Integer.MIN_VALUE, Integer.MAX_VALUE}) {
            thrown(when + ": act(" + i + ")", INDEX, () -> x.act(i));
        }
    }

    /** A set-up with one FIELD each: links.length OBJECTS, then what ROOTS have. */
    private static ColourTrier simple(int barriers, int acts, int[] links, int... roots) {
        ColourTrier x = new ColourTrier();
        x.size(links.length, 1, roots.length);
        x.rules(barriers, acts);
        for (int o = 0; o < links.length; o++) {
            x.point(o, 0, links[o]);
        }
        for (int i = 0; i < roots.length; i++) {
            x.root(i, roots[i]);
        }
        return x;
    }

    private static int[] links(int... to) {
        return to;
    }

    /** As large as can be: ROOT i has OBJECT i; OBJECT o has (o + 1) and (o + 2), beyond 3 from 0 on. */
    private static ColourTrier largest(int barriers, int acts) {
        ColourTrier x = new ColourTrier();
        x.size(4, 2, 3);
        x.rules(barriers, acts);
        for (int o = 0; o < 4; o++) {
            x.point(o, 0, (o + 1) % 4);
            x.point(o, 1, (o + 2) % 4);
        }
        for (int i = 0; i < 3; i++) {
            x.root(i, i);
        }
        return x;
    }

    // ---- Terms: the SET-UP's numbers

    private static void sizesTaken() {
        for (int objects = 1; objects <= 4; objects++) {
            for (int fields = 1; fields <= 2; fields++) {
                for (int roots = 1; roots <= 3; roots++) {
                    ColourTrier x = new ColourTrier();
                    x.size(objects, fields, roots);
                    due("count(0)", x.count(0), objects);
                    due("count(1)", x.count(1), fields);
                    due("count(2)", x.count(2), roots);
                    numbersOf(x, objects, fields, roots);
                }
            }
        }
        ColourTrier x = new ColourTrier();
        range("size(n, 1, 1)", 1, 4, n -> x.size(n, 1, 1));
        range("size(1, n, 1)", 1, 2, n -> x.size(1, n, 1));
        range("size(1, 1, n)", 1, 3, n -> x.size(1, 1, n));
        range("size(n, 2, 3)", 1, 4, n -> x.size(n, 2, 3));
        range("size(4, n, 3)", 1, 2, n -> x.size(4, n, 3));
        range("size(4, 2, n)", 1, 3, n -> x.size(4, 2, n));
    }

    /** What is least and greatest among OBJECTS, FIELDS and ROOTS is told by the set-up, in every call. */
    private static void numbersOf(ColourTrier x, int objects, int fields, int roots) {
        int o = objects - 1;
        int f = fields - 1;
        int r = roots - 1;
        range("point(n, f, o)", 0, o, n -> x.point(n, f, o));
        range("point(o, n, o)", 0, f, n -> x.point(o, n, o));
        range("point(o, f, n)", -1, o, n -> x.point(o, f, n));
        range("root(n, o)", 0, r, n -> x.root(n, o));
        range("root(r, n)", -1, o, n -> x.root(r, n));
        range("colour(n)", 0, o, n -> x.colour(n));
        range("field(n, f)", 0, o, n -> x.field(n, f));
        range("field(o, n)", 0, f, n -> x.field(o, n));
        range("has(n)", 0, r, n -> x.has(n));
        due("field(o, f)", x.field(o, f), o);
        due("has(r)", x.has(r), o);
        x.point(o, f, -1);
        x.root(r, -1);
        due("field(o, f) behind -1", x.field(o, f), -1);
        due("has(r) behind -1", x.has(r), -1);
    }

    private static void nothingAtFirst() {
        ColourTrier x = new ColourTrier();
        x.size(4, 2, 3);
        for (int o = 0; o < 4; o++) {
            due("field(" + o + ", 0)", x.field(o, 0), -1);
            due("field(" + o + ", 1)", x.field(o, 1), -1);
        }
        for (int i = 0; i < 3; i++) {
            due("has(" + i + ")", x.has(i), -1);
        }
    }

    /** With each number of ACTS the program has just as many, and not one more. */
    private static void actsOfTheProgram() {
        for (int acts = 0; acts <= 8; acts++) {
            ColourTrier x = new ColourTrier();
            x.rules(0, acts);
            due("count(4)", x.count(4), acts);
            due("again() with " + acts + " acts", x.again(), acts == 0 ? 1 : 2);
            for (int left = acts; left > 0; left--) {
                due("count(8)", x.count(8), left);
                due("CLEAR with " + left + " left", x.play(clear(0)), left == 1 ? 1 : 2);
            }
            due("count(8) when all are used up", x.count(8), 0);
            due("count(4) when all are used up", x.count(4), acts);
            thrown("CLEAR when all are used up", STATE, () -> x.play(clear(0)));
            due("count(8) behind the refused one", x.count(8), 0);
            due("LOOK when all are used up", x.play(LOOK), 1);
            due("END when all are used up", x.play(END), 0);
            due("again()", x.again(), acts == 0 ? 1 : 2);
            due("count(8) behind again()", x.count(8), acts);
        }
    }

    private static void firstState() {
        ColourTrier x = largest(127, 8);
        colours("the largest", x, 0, 0, 0, 0);
        due("count(7)", x.count(7), 0);
        due("count(8)", x.count(8), 8);
        looks(x, 1);
        colours("ROOT 0 is looked at first", x, 1, 0, 0, 0);
    }

    // ---- Terms: the collector's acts

    private static void rootsInOrder() {
        ColourTrier x = simple(0, 0, links(-1, -1, -1), 2, 0, 1);
        int[][] want = {{0, 0, 1}, {1, 0, 1}, {1, 1, 1}};
        for (int[] colours : want) {
            x.play(LOOK);
            colours("a LOOK at the next ROOT", x, colours);
        }
        x.play(LOOK);
        colours("behind the last ROOT at the least GREY one", x, 2, 1, 1);
        ColourTrier y = simple(0, 0, links(0, -1), -1, 1, 1);
        int[] second = {0, 1, 1};
        for (int step = 0; step < 3; step++) {
            due("LOOK " + step, y.play(LOOK), 1);
            colours("NOTHING, a WHITE one, the same when it is GREY: LOOK " + step, y, 0, second[step]);
        }
        y.play(LOOK);
        colours("its FIELD", y, 0, 2);
    }

    private static void fieldsInOrder() {
        // OBJECT 3, the greatest, has 1 and then 2.
        ColourTrier x = new ColourTrier();
        x.size(4, 2, 1);
        x.root(0, 3);
        x.point(3, 0, 1);
        x.point(3, 1, 2);
        int[][] want = {{0, 0, 0, 1}, {0, 1, 0, 1}, {0, 1, 0, 1}, {0, 2, 0, 1}, {0, 2, 1, 2}, {0, 2, 1, 2},
            {0, 2, 2, 2}};
        for (int[] colours : want) {
            x.play(LOOK);
            colours("two FIELDS each", x, colours);
        }
        ColourTrier y = simple(0, 0, links(-1), 0);
        looks(y, 2);
        colours("the only FIELD has NOTHING", y, 2);
    }

    /** A GREY one with one FIELD looked at is met again, by the collector and by each barrier. */
    private static void notWhiteStays() {
        ColourTrier x = new ColourTrier();
        x.size(2, 2, 1);
        x.root(0, 1);
        x.point(1, 0, 0);
        x.point(0, 0, 1);
        looks(x, 4);
        colours("GREY 1 was met from 0", x, 2, 1);
        x.play(LOOK);
        colours("its FIELD 0 was still looked at", x, 2, 2);
        x.point(0, 1, 0);
        looks(x, 5);
        colours("an OBJECT that has itself", x, 2, 2);
        int[][] acts = {{1, store(0, 0, 0)}, {2, store(0, 0, 0)}, {4, store(0, 0, 0)}, {8, store(0, 0, 0)},
            {16, copy(1, 0)}, {16, load(1, 0, 0)}, {64, clear(0)}, {64, copy(0, 1)}, {64, load(0, 0, 0)},
            {127, store(0, 0, 0)}, {127, copy(1, 0)}, {127, clear(0)}};
        for (int[] act : acts) {
            ColourTrier y = new ColourTrier();
            y.size(1, 2, 2);
            y.rules(act[0], 1);
            y.root(0, 0);
            y.point(0, 0, 0);
            looks(y, 3);
            y.play(act[1]);
            colours("barriers " + act[0] + ", act " + act[1], y, 1);
            y.play(LOOK);
            colours("one LOOK more, barriers " + act[0] + ", act " + act[1], y, 2);
        }
    }

    private static void whenLookCanBeDone() {
        ColourTrier x = new ColourTrier();
        x.size(1, 1, 3);
        for (int step = 0; step < 3; step++) {
            thrown("LOOK at ROOT " + step + " that has NOTHING", null, () -> x.play(LOOK));
        }
        thrown("LOOK with all ROOTS looked at and none GREY", STATE, () -> x.play(LOOK));
        x.play(END);
        thrown("LOOK when it is over", STATE, () -> x.play(LOOK));
        ColourTrier y = simple(0, 0, links(-1), 0);
        looks(y, 1);
        thrown("LOOK with one GREY", null, () -> y.play(LOOK));
        thrown("LOOK with all BLACK", STATE, () -> y.play(LOOK));
        // A GREY one that no ROOT leads to is looked at all the same.
        ColourTrier z = simple(64, 1, links(-1), 0);
        playAll(z, clear(0), LOOK);
        thrown("LOOK at a GREY one behind a CLEAR", null, () -> z.play(LOOK));
        colours("behind it", z, 2);
    }

    private static void whenEndCanBeDone() {
        ColourTrier x = new ColourTrier();
        x.size(1, 1, 3);
        for (int looked = 0; looked < 3; looked++) {
            thrown("END with " + looked + " ROOTS of 3 looked at", STATE, () -> x.play(END));
            x.play(LOOK);
        }
        due("END with all looked at and none GREY", x.play(END), 0);
        due("count(7)", x.count(7), 1);
        thrown("END when it is over", STATE, () -> x.play(END));
        ColourTrier y = simple(0, 0, links(-1), 0);
        looks(y, 1);
        thrown("END with one GREY", STATE, () -> y.play(END));
        looks(y, 1);
        thrown("END with all BLACK", null, () -> y.play(END));
    }

    private static void endWithBarrier32() {
        ColourTrier x = new ColourTrier();
        x.size(2, 1, 3);
        x.rules(32, 0);
        looks(x, 3);
        due("END, all ROOTS have NOTHING", x.play(END), 0);
        due("count(7)", x.count(7), 1);
        colours("what no ROOT has stays WHITE", x, 0, 0);
        ColourTrier y = simple(32, 0, links(-1, -1), 0, 0, -1);
        looks(y, 4);
        due("END, ROOTS have a BLACK one and NOTHING", y.play(END), 0);
        due("count(7)", y.count(7), 1);
        // 2 goes from FIELD 0 of OBJECT 0 to ROOT 2, which was looked at already.
        ColourTrier z = simple(32, 8, links(2, -1, 3, -1), 0, -1, -1);
        playAll(z, LOOK, LOOK, LOOK, load(2, 0, 0), store(0, 1, 0), LOOK);
        colours("before END", z, 2, 0, 0, 0);
        due("END answers how many can be done", z.play(END), 1 + 6 + 6 + 6 + 3);
        colours("what the last ROOT has becomes GREY, not what its FIELD has", z, 2, 0, 1, 0);
        due("count(7): it is not over", z.count(7), 0);
        due("count(8): END takes no act", z.count(8), 6);
        thrown("END with one GREY", STATE, () -> z.play(END));
        playAll(z, LOOK, LOOK, END);
        due("count(7): then it is", z.count(7), 1);
        colours("over", z, 2, 0, 2, 2);
        endGreysSeveral();
        // Each barrier but 32 leaves END alone.
        ColourTrier v = simple(95, 0, links(-1), -1);
        looks(v, 1);
        due("END without barrier 32", v.play(END), 0);
    }

    /** Both leave ROOTS that were not looked at for some that were: END greys the two of them at once. */
    private static void endGreysSeveral() {
        ColourTrier x = simple(32, 8, links(1, 2, -1), 0, -1, -1);
        playAll(x, LOOK, LOOK, LOOK, load(1, 0, 0), load(2, 1, 0), store(0, 0, 0), LOOK);
        colours("before END", x, 2, 0, 0);
        x.play(END);
        colours("all that ROOTS have, at one END", x, 2, 1, 1);
        due("count(7)", x.count(7), 0);
        playAll(x, LOOK, LOOK);
        due("END again", x.play(END), 0);
    }

    // ---- Terms: the program's acts

    /** Each number 2 .. 49 on the largest set-up: what it changes, and that it changes nothing else. */
    private static void numbersOfActs() {
        for (int a = 0; a < 3; a++) {
            for (int b = 0; b < 3; b++) {
                if (a == b) {
                    int same = copy(a, b);
                    ColourTrier x = largest(0, 1);
                    thrown("play(" + same + "), a is b", STATE, () -> x.play(same));
                } else {
                    linksBehind(copy(a, b), a, b, -1, -1, -1);
                }
                for (int f = 0; f < 2; f++) {
                    linksBehind(load(a, b, f), a, (b + f + 1) % 4, -1, -1, -1);
                    linksBehind(store(a, b, f), -1, -1, a, f, b);
                }
            }
            linksBehind(clear(a), a, -1, -1, -1, -1);
        }
        due("the last COPY", copy(2, 1), 9);
        due("the first LOAD and the last", 100 * load(0, 0, 0) + load(2, 2, 1), 1128);
        due("the first STORE and the last", 100 * store(0, 0, 0) + store(2, 2, 1), 2946);
        due("the first CLEAR and the last", 100 * clear(0) + clear(2), 4749);
    }

    /** A root or an object of -1: none is changed. */
    private static void linksBehind(int act, int root, int rootHas, int object, int field, int fieldHas) {
        ColourTrier x = largest(0, 1);
        x.play(act);
        for (int i = 0; i < 3; i++) {
            due("act " + act + ": has(" + i + ")", x.has(i), i == root ? rootHas : i);
        }
        for (int o = 0; o < 4; o++) {
            for (int f = 0; f < 2; f++) {
                int want = o == object && f == field ? fieldHas : (o + f + 1) % 4;
                due("act " + act + ": field(" + o + ", " + f + ")", x.field(o, f), want);
            }
        }
        due("act " + act + ": count(8)", x.count(8), 0);
        colours("act " + act, x, 0, 0, 0, 0);
    }

    private static void whileItIsNotOver() {
        ColourTrier x = simple(0, 8, links(0), 0);
        looks(x, 2);
        due("END", x.play(END), 0);
        due("count(8): all acts are left", x.count(8), 8);
        for (int act : new int[] {load(0, 0, 0), store(0, 0, 0), clear(0)}) {
            thrown("play(" + act + ") when it is over", STATE, () -> x.play(act));
        }
        due("count(8) behind them", x.count(8), 8);
    }

    private static void onlyIfThereIsThatObject() {
        ColourTrier x = simple(127, 8, links(-1), -1, 0);
        thrown("LOAD, ROOT b has NOTHING", STATE, () -> x.play(load(1, 0, 0)));
        thrown("LOAD, ROOTS a and b have NOTHING", STATE, () -> x.play(load(0, 0, 0)));
        thrown("STORE, ROOT a has NOTHING", STATE, () -> x.play(store(0, 1, 0)));
        thrown("STORE, ROOTS a and b have NOTHING", STATE, () -> x.play(store(0, 0, 0)));
        due("count(8): none was taken", x.count(8), 8);
        due("again()", x.again(), 1 + 2 + 2 + 2 + 2);
        thrown("STORE of NOTHING", null, () -> x.play(store(1, 0, 0)));
        thrown("LOAD where ROOT a has NOTHING", null, () -> x.play(load(0, 1, 0)));
        due("has(0): the FIELD has NOTHING", x.has(0), -1);
        thrown("COPY of NOTHING", null, () -> x.play(copy(1, 0)));
        due("has(1)", x.has(1), -1);
        thrown("COPY of NOTHING to NOTHING", null, () -> x.play(copy(0, 1)));
        thrown("CLEAR of NOTHING", null, () -> x.play(clear(0)));
        due("count(8): each took one", x.count(8), 3);
    }

    /** Acts that name a ROOT or a FIELD which the set-up lacks can not be done, though a larger one has them. */
    private static void actsBeyondTheSetUp() {
        for (int roots = 1; roots <= 3; roots++) {
            for (int fields = 1; fields <= 2; fields++) {
                ColourTrier x = new ColourTrier();
                x.size(1, fields, roots);
                x.rules(0, 8);
                for (int i = 0; i < roots; i++) {
                    x.root(i, 0);
                }
                int can = 1 + roots * (roots - 1) + 2 * roots * roots * fields + roots;
                due("again() with " + roots + " ROOTS and " + fields + " FIELDS", x.again(), can);
                int done = 0;
                for (int act = 0; act < 50; act++) {
                    x.again();
                    try {
                        x.play(act);
                        done++;
                    } catch (IllegalStateException e) {
                        continue;
                    }
                }
                due("acts 0 .. 49 that are done", done, can);
            }
        }
        ColourTrier x = simple(0, 8, links(0, 0), 0, 1);
        int[] beyond = {copy(0, 2), copy(2, 0), load(0, 0, 1), load(0, 2, 0), load(2, 0, 0), store(0, 0, 1),
            store(0, 2, 0), store(2, 0, 0), clear(2)};
        for (int act : beyond) {
            thrown("play(" + act + ") with two ROOTS and one FIELD", STATE, () -> x.play(act));
        }
    }

    // ---- Terms: barriers

    private static void barriersTaken() {
        ColourTrier x = new ColourTrier();
        range("rules(n, 0)", 0, 127, n -> x.rules(n, 0));
        range("rules(127, n)", 0, 8, n -> x.rules(127, n));
        range("rules(0, n)", 0, 8, n -> x.rules(0, n));
        ColourTrier y = new ColourTrier();
        for (int barriers : new int[] {0, 1, 2, 4, 8, 16, 32, 64, 127}) {
            y.rules(barriers, 8);
            due("count(3)", y.count(3), barriers);
            due("count(4)", y.count(4), 8);
        }
    }

    /** X is WHITE, GREY and BLACK; its FIELD gets NOTHING where it has NOTHING. */
    private static void newAndOldMayBeNothing() {
        for (int barriers = 0; barriers < 128; barriers++) {
            ColourTrier x = simple(barriers, 8, links(-1), 0, -1);
            for (int colour = 0; colour < 3; colour++) {
                x.play(store(0, 1, 0));
                colours("NOTHING over NOTHING, barriers " + barriers, x, colour);
                due("field(0, 0)", x.field(0, 0), -1);
                looks(x, colour == 0 ? 2 : colour == 1 ? 1 : 0);
            }
            playAll(x, copy(1, 0), clear(0), clear(0), clear(1), copy(0, 1));
            colours("ROOTS that have NOTHING, barriers " + barriers, x, 2);
            due("has(0)", x.has(0), -1);
            due("has(1)", x.has(1), -1);
            due("count(8)", x.count(8), 0);
        }
    }

    private static void severalInOrder() {
        // X is BLACK and NEW WHITE (OLD is the same, but with barrier 2): 1, 2 and 4 make it GREY before 8 asks.
        for (int before : new int[] {0, 1, 2, 4, 7}) {
            ColourTrier x = blackThatHasWhite(before + 8);
            x.play(store(0, 1, 0));
            colours("barriers " + (before + 8), x, before == 0 ? 1 : 2, before == 0 ? 0 : 1, 1);
        }
        // The FIELD changes last: OLD is what it had, and NEW is not OLD.
        ColourTrier y = simple(1, 1, links(1, -1, -1), 0, 2);
        y.play(store(0, 1, 0));
        colours("1, OLD is not NEW", y, 0, 1, 0);
        ColourTrier z = simple(2, 1, links(1, -1, -1), 0, 2);
        z.play(store(0, 1, 0));
        colours("2, OLD is not NEW", z, 0, 0, 1);
        // A ROOT changes last: what it had and what it gets are two.
        ColourTrier w = simple(64, 1, links(1, -1), 0);
        w.play(load(0, 0, 0));
        colours("64, LOAD over itself", w, 1, 0);
        ColourTrier v = simple(16, 1, links(1, -1), 0);
        v.play(load(0, 0, 0));
        colours("16, LOAD over itself", v, 0, 1);
        ColourTrier u = simple(80, 1, links(1, -1), 0);
        u.play(load(0, 0, 0));
        colours("64 and 16, LOAD over itself", u, 1, 1);
    }

    /**
     * OBJECT 0 is BLACK, 1 WHITE, 2 GREY; ROOT 0 has 0, ROOT 1 has 1, and so has FIELD 0 of OBJECT 0,
     * but for barrier 2, which would have made 1 GREY on its way there.
     */
    private static ColourTrier blackThatHasWhite(int barriers) {
        ColourTrier x = new ColourTrier();
        x.size(3, 2, 2);
        x.rules(barriers, 8);
        x.root(0, 0);
        x.root(1, 2);
        x.point(2, 0, 1);
        playAll(x, LOOK, LOOK, LOOK, load(1, 1, 0));
        // FIELD 0 of GREY 0 was looked at already, so that what it gets now is not seen.
        if ((barriers & 2) == 0) {
            x.play(store(0, 1, 0));
        }
        x.play(LOOK);
        colours("OBJECT 0 is BLACK, 1 WHITE, 2 GREY", x, 2, 0, 1);
        return x;
    }

    private static void greyAgainFromTheFirstField() {
        ColourTrier x = new ColourTrier();
        x.size(3, 2, 2);
        x.rules(8, 3);
        x.root(0, 0);
        x.root(1, 1);
        x.point(1, 1, 2);
        playAll(x, LOOK, LOOK, LOOK, LOOK, load(1, 1, 1));
        colours("X is BLACK, NEW WHITE", x, 2, 1, 0);
        x.play(store(0, 1, 0));
        colours("X is GREY again", x, 1, 1, 0);
        x.play(LOOK);
        colours("a LOOK at FIELD 0", x, 1, 1, 1);
        x.play(LOOK);
        colours("a LOOK at FIELD 1", x, 2, 1, 1);
        x.play(store(0, 1, 1));
        colours("NEW is GREY: X stays BLACK", x, 2, 1, 1);
    }

    // ---- Terms: what is BROKEN

    /** The longest way there is: ROOT 0, and three FIELDS. */
    private static void lostAtTheEndOfTheLongestWay() {
        ColourTrier x = simple(0, 8, links(1, 2, 3, -1), 0, -1, -1);
        playAll(x, LOOK, LOOK, LOOK, load(1, 0, 0), load(1, 1, 0), load(2, 1, 0), store(1, 0, 0));
        playAll(x, LOOK, LOOK, LOOK);
        colours("OBJECT 3 was hidden", x, 2, 2, 2, 0);
        playAll(x, store(1, 2, 0), clear(1), clear(2));
        laws("not over", x, false, true, true, false);
        x.play(END);
        laws("over", x, true, true, true, false);
        ColourTrier y = simple(0, 0, links(1, 2, 3, -1), 0);
        playAll(y, LOOK, LOOK, LOOK, LOOK, LOOK);
        laws("all BLACK, not over", y, false, false, false, false);
        y.play(END);
        laws("all BLACK and all needed", y, false, false, false, false);
    }

    private static void lostInARootItself() {
        ColourTrier x = simple(0, 2, links(-1), -1, 0);
        playAll(x, LOOK, copy(0, 1), clear(1), LOOK);
        laws("not over", x, false, false, false, false);
        x.play(END);
        laws("over", x, true, false, false, false);
        // WHITE, but no ROOT has it any more.
        x.again();
        playAll(x, clear(1), LOOK, LOOK, END);
        laws("over, nothing is needed", x, false, false, false, false);
    }

    private static void strongAndWeak() {
        ColourTrier x = simple(0, 8, links(-1, 2, 3, -1), 0, 1, -1);
        laws("all WHITE", x, false, false, false, false);
        looks(x, 4);
        laws("a BLACK one has NOTHING, GREY has WHITE", x, false, false, false, false);
        playAll(x, load(2, 1, 0), load(2, 2, 0), store(0, 2, 0));
        laws("GREY 1 leads to 3 over WHITE 2", x, false, true, false, false);
        x.play(load(2, 1, 0));
        x.play(store(2, 2, 0));
        laws("WHITE 2 has itself, not 3", x, false, true, true, false);
        x.play(store(0, 2, 0));
        laws("BLACK 0 has 2, which GREY 1 has", x, false, true, false, false);
        x.play(store(0, 1, 0));
        laws("BLACK 0 has GREY 1", x, false, false, false, false);
        x.play(store(0, 0, 0));
        laws("BLACK 0 has itself", x, false, false, false, false);
    }

    /** A way over the BLACK one itself is none, whether it begins with it or comes there from a WHITE one. */
    private static void weakOverABlackOne() {
        ColourTrier x = simple(0, 8, links(-1, 2, 3, -1), 0, 1, -1);
        playAll(x, LOOK, LOOK, LOOK, LOOK, load(2, 1, 0), load(1, 2, 0), store(0, 1, 0));
        colours("0 is BLACK, 1 GREY", x, 2, 1, 0, 0);
        laws("GREY 1, WHITE 2, WHITE 3", x, false, true, false, false);
        x.play(store(2, 0, 0));
        laws("GREY 1, WHITE 2, BLACK 0, WHITE 3", x, false, true, true, false);
        ColourTrier y = simple(0, 8, links(-1, 2, 3, -1), 0, 1, 1);
        playAll(y, LOOK, LOOK, LOOK, LOOK, load(1, 1, 0), load(1, 1, 0), store(0, 1, 0));
        laws("GREY 1, WHITE 2, WHITE 3", y, false, true, false, false);
        y.play(store(2, 0, 0));
        laws("GREY 1, BLACK 0, WHITE 3", y, false, true, true, false);
    }

    /** GREY 1 has WHITE 2 in FIELD 0, which was looked at before: it leads there all the same. */
    private static void weakOverAFieldLookedAt() {
        ColourTrier x = new ColourTrier();
        x.size(3, 2, 3);
        x.rules(0, 8);
        x.root(0, 0);
        x.root(1, 1);
        x.point(1, 1, 2);
        playAll(x, LOOK, LOOK, LOOK, LOOK, LOOK, LOOK, load(2, 1, 1), store(0, 2, 0));
        colours("FIELD 0 of GREY 1 was looked at", x, 2, 1, 0);
        laws("GREY 1 has 2 in FIELD 1 alone", x, false, true, false, false);
        playAll(x, store(1, 2, 0), store(1, 0, 1));
        laws("GREY 1 has 2 in FIELD 0 alone", x, false, true, false, false);
        x.play(store(1, 0, 0));
        laws("GREY 1 has it no more", x, false, true, true, false);
    }

    private static void floatingWithoutRoots() {
        ColourTrier x = simple(0, 1, links(1, 0), 0);
        looks(x, 3);
        x.play(clear(0));
        laws("not over", x, false, false, false, false);
        x.play(END);
        laws("over, no ROOT has anything", x, false, false, false, true);
        ColourTrier y = new ColourTrier();
        playAll(y, LOOK, END);
        laws("a WHITE one that is not needed", y, false, false, false, false);
    }

    // ---- Promises 1 to 5

    private static void newObject() {
        ColourTrier x = new ColourTrier();
        int[] counts = {1, 1, 1, 0, 0, 0, 0, 0, 0};
        for (int what = 0; what < 9; what++) {
            due("count(" + what + ")", x.count(what), counts[what]);
        }
        numbersOf(new ColourTrier(), 1, 1, 1);
        due("field(0, 0)", x.field(0, 0), -1);
        due("has(0)", x.has(0), -1);
        colours("new", x, 0);
        laws("new", x, false, false, false, false);
        noRow("no find yet", x);
        for (int n = 1; n < 50; n++) {
            int act = n;
            thrown("play(" + act + ")", STATE, () -> x.play(act));
        }
        due("again()", x.again(), 1);
        due("find(LOST)", x.find(LOST), -1);
        due("count(5): the first one, behind LOOK, behind END", x.count(5), 3);
    }

    /** A play that is over, its acts used up, with a BLACK one and links changed: as far from the first as can be. */
    private static ColourTrier farFromTheFirst(int barriers, int acts) {
        ColourTrier x = simple(barriers, acts, links(1, -1), 0, 1);
        for (int n = 0; n < acts; n++) {
            x.play(n % 2 == 0 ? store(0, 0, 0) : clear(1));
        }
        while (x.count(7) == 0) {
            try {
                x.play(LOOK);
            } catch (IllegalStateException e) {
                x.play(END);
            }
        }
        return x;
    }

    private static void isFirst(String when, ColourTrier x, int acts) {
        for (int o = 0; o < x.count(0); o++) {
            due(when + ": colour(" + o + ")", x.colour(o), 0);
        }
        due(when + ": count(7)", x.count(7), 0);
        due(when + ": count(8)", x.count(8), acts);
        for (int looked = 0; looked < x.count(2); looked++) {
            thrown(when + ": END, " + looked + " ROOTS looked at", STATE, () -> x.play(END));
            thrown(when + ": LOOK at ROOT " + looked, null, () -> x.play(LOOK));
        }
    }

    private static void sizeBeginsAnew() {
        for (int[] rules : new int[][] {{0, 0}, {127, 8}, {64, 1}}) {
            ColourTrier x = farFromTheFirst(rules[0], rules[1]);
            x.size(2, 1, 2);
            due("count(3) stays", x.count(3), rules[0]);
            due("count(4) stays", x.count(4), rules[1]);
            due("field(0, 0)", x.field(0, 0), -1);
            due("has(0)", x.has(0), -1);
            due("has(1)", x.has(1), -1);
            isFirst("behind the same size", x, rules[1]);
            x.size(4, 2, 3);
            isFirst("behind the largest", x, rules[1]);
            x.root(2, 3);
            x.point(3, 1, 3);
            x.size(1, 1, 1);
            isFirst("behind the smallest", x, rules[1]);
            thrown("has(1)", ARGUMENT, () -> x.has(1));
            thrown("colour(1)", ARGUMENT, () -> x.colour(1));
            thrown("field(0, 1)", ARGUMENT, () -> x.field(0, 1));
            x.size(4, 2, 3);
            due("has(2), which was 3 once", x.has(2), -1);
            due("field(3, 1), which was 3 once", x.field(3, 1), -1);
        }
    }

    private static void pointBeginsAnew() {
        ColourTrier x = farFromTheFirst(64, 3);
        x.point(1, 0, 1);
        due("field(1, 0)", x.field(1, 0), 1);
        due("field(0, 0) as at first", x.field(0, 0), 1);
        due("has(1) as at first", x.has(1), 1);
        isFirst("behind point", x, 3);
        x.play(store(0, 0, 0));
        x.point(1, 0, -1);
        due("field(1, 0) behind -1", x.field(1, 0), -1);
        due("field(0, 0) as at first", x.field(0, 0), 1);
        isFirst("behind point to NOTHING", x, 3);
        x.play(store(0, 0, 0));
        x.point(1, 0, -1);
        due("field(0, 0) as at first, behind a point that tells nothing new", x.field(0, 0), 1);
        isFirst("behind a point that tells nothing new", x, 3);
    }

    private static void rootBeginsAnew() {
        ColourTrier x = farFromTheFirst(64, 3);
        x.root(1, 0);
        due("has(1)", x.has(1), 0);
        due("has(0) as at first", x.has(0), 0);
        due("field(0, 0) as at first", x.field(0, 0), 1);
        isFirst("behind root", x, 3);
        x.play(clear(0));
        x.root(1, -1);
        due("has(1) behind -1", x.has(1), -1);
        due("has(0) as at first", x.has(0), 0);
        isFirst("behind root to NOTHING", x, 3);
        x.play(clear(0));
        x.root(1, -1);
        due("has(0) as at first, behind a root that tells nothing new", x.has(0), 0);
        isFirst("behind a root that tells nothing new", x, 3);
    }

    private static void rulesBeginAnew() {
        ColourTrier x = farFromTheFirst(64, 3);
        for (int[] rules : new int[][] {{0, 0}, {127, 8}, {127, 8}, {1, 1}}) {
            x.rules(rules[0], rules[1]);
            due("count(3)", x.count(3), rules[0]);
            due("count(4)", x.count(4), rules[1]);
            due("field(0, 0) as at first", x.field(0, 0), 1);
            due("has(1) as at first", x.has(1), 1);
            isFirst("behind rules", x, rules[1]);
        }
    }

    // ---- Promises 6 and 7

    private static void findWhat() {
        ColourTrier x = new ColourTrier();
        range("find(n)", 0, 3, n -> x.find(n));
        ColourTrier y = simple(0, 3, links(1, -1), 0, -1);
        due("find(LOST)", y.find(LOST), 6);
        due("find(STRONG)", y.find(STRONG), 6);
        due("find(WEAK)", y.find(WEAK), 6);
        due("find(FLOATING)", y.find(FLOATING), 6);
    }

    /** The ROOT has NOTHING: not, or looked at, or over, times the acts that are left. */
    private static void statesOfTheSmallest() {
        ColourTrier x = new ColourTrier();
        for (int acts = 0; acts <= 8; acts++) {
            x.rules(127, acts);
            for (int what = 0; what < 4; what++) {
                due("find(" + what + ")", x.find(what), -1);
                due("count(5) with " + acts + " acts", x.count(5), 3 * (acts + 1));
            }
        }
    }

    private static void emptyRows() {
        ColourTrier x = simple(0, 1, links(-1), 0);
        noRow("before a find", x);
        due("find(FLOATING)", x.find(FLOATING), 4);
        row("a row", x, LOOK, LOOK, load(0, 0, 0), END);
        due("find(LOST)", x.find(LOST), -1);
        noRow("behind -1", x);
        x.find(FLOATING);
        x.rules(0, 0);
        due("find(FLOATING) without acts", x.find(FLOATING), -1);
        noRow("behind -1 again", x);
        ColourTrier y = tooMany();
        y.rules(0, 2);
        due("find(FLOATING)", y.find(FLOATING), 8);
        due("count(6)", y.count(6), 8);
        y.rules(40, 8);
        due("find(LOST)", y.find(LOST), -2);
        noRow("behind -2", y);
        due("count(5)", y.count(5), 20000);
        y.size(1, 1, 1);
        y.rules(0, 0);
        due("find(LOST) of the smallest behind -2", y.find(LOST), -1);
        due("count(5)", y.count(5), 3);
    }

    /** All ROOTS and all FIELDS of the largest are looked at before the program takes its only act. */
    private static void longRow() {
        ColourTrier x = largest(0, 1);
        x.root(1, -1);
        x.root(2, -1);
        due("find(FLOATING)", x.find(FLOATING), 13);
        row("3 ROOTS, 4 times 2 FIELDS, COPY of NOTHING, END", x, 0, 0, 0, 0, 0, 0, 0, 0, 0, 0, 0, copy(0, 1), END);
    }

    /** No call but find is said to change the ROW or what find counted; each is tried by itself. */
    private static void rowOfTheLatestFind() {
        List<Consumer<ColourTrier>> others = List.of(
            x -> x.size(1, 1, 1), x -> x.size(4, 2, 3), x -> x.point(0, 0, 0), x -> x.point(0, 0, -1),
            x -> x.root(0, -1), x -> x.root(0, 0), x -> x.rules(0, 0), x -> x.rules(127, 8),
            x -> x.play(LOOK), x -> x.again(), x -> x.broken(FLOATING), x -> x.colour(0),
            x -> x.field(0, 0), x -> x.has(0), x -> x.count(5), x -> x.act(3));
        ColourTrier late = simple(0, 1, links(-1), 0);
        late.find(FLOATING);
        for (int n = 0; n < others.size(); n++) {
            ColourTrier x = simple(0, 1, links(-1), 0);
            x.find(FLOATING);
            others.get(n).accept(x);
            row("behind call " + n, x, LOOK, LOOK, load(0, 0, 0), END);
            due("count(5) behind call " + n, x.count(5), 13);
            others.get(n).accept(late);
            row("behind the calls up to " + n, late, LOOK, LOOK, load(0, 0, 0), END);
            due("count(5) behind the calls up to " + n, late.count(5), 13);
        }
        ColourTrier past = tooMany();
        past.find(LOST);
        past.size(1, 1, 1);
        past.rules(0, 0);
        due("count(5) of a find of -2, behind size and rules", past.count(5), 20000);
        noRow("a find of -2, behind size and rules", past);
        past.find(LOST);
        due("count(5) of the next find", past.count(5), 3);
    }

    /** The SET-UP as it is when find is called counts, and the STATE played so far does not. */
    private static void findFromTheFirstState() {
        ColourTrier x = simple(0, 1, links(-1), 0);
        playAll(x, LOOK, LOOK, clear(0), END);
        due("broken(FLOATING) of the STATE", x.broken(FLOATING), true);
        due("find(FLOATING) when it is over", x.find(FLOATING), 4);
        row("from the first STATE on", x, LOOK, LOOK, load(0, 0, 0), END);
        due("count(5)", x.count(5), 13);
        due("count(7), the STATE stays", x.count(7), 1);
        due("has(0), the STATE stays", x.has(0), -1);
        due("find(LOST) when it is over", x.find(LOST), -1);
        due("count(7) behind -1", x.count(7), 1);
        due("broken(FLOATING) behind -1", x.broken(FLOATING), true);
        ColourTrier y = tooMany();
        playAll(y, LOOK, clear(2));
        due("find(LOST) in the middle of a play", y.find(LOST), -2);
        due("has(2) behind -2", y.has(2), -1);
        due("count(8) behind -2", y.count(8), 7);
        colours("behind -2", y, 1, 0);
    }

    /** 20001 STATES in all. */
    private static ColourTrier tooMany() {
        return simple(40, 8, links(1, 1), 0, 0, 1);
    }

    private static void limit() {
        ColourTrier all = simple(38, 8, links(0, 0), 1, 1, 0);
        due("find(LOST) with 20000 STATES in all", all.find(LOST), -1);
        due("count(5)", all.count(5), 20000);
        noRow("20000 in all", all);
        due("the same again", all.find(LOST), -1);
        due("count(5)", all.count(5), 20000);
        ColourTrier more = tooMany();
        due("find(LOST) with 20001 STATES in all", more.find(LOST), -2);
        due("count(5)", more.count(5), 20000);
        noRow("20001 in all", more);
        ColourTrier far = largest(0, 8);
        due("find(LOST) with far more", far.find(LOST), -2);
        due("count(5)", far.count(5), 20000);
        noRow("far more", far);
        due("the STATE is left alone", far.count(8), 8);
    }

    private static void brokenAtTheLimit() {
        ColourTrier last = new ColourTrier();
        last.size(3, 2, 3);
        last.rules(32, 5);
        last.point(0, 0, 0);
        last.point(1, 0, 1);
        last.point(2, 1, 2);
        last.root(0, 1);
        last.root(1, 2);
        last.root(2, 1);
        due("find(STRONG), BROKEN is the 20000th", last.find(STRONG), 8);
        due("count(5)", last.count(5), 20000);
        due("count(6)", last.count(6), 8);
        for (int i = 0; i < 8; i++) {
            due("not BROKEN before the last act", last.broken(STRONG), false);
            last.play(last.act(i));
        }
        due("BROKEN behind the row", last.broken(STRONG), true);
        ColourTrier next = simple(2, 4, links(0, 1, 2), 0, 1, 2);
        due("find(LOST), BROKEN would be the 20001st", next.find(LOST), -2);
        due("count(5)", next.count(5), 20000);
        noRow("the 20001st", next);
    }

    private static void leastOfTheShortest() {
        // Behind LOOK, LOOK the ROOT may lose the OBJECT by LOAD (11) or CLEAR (47).
        ColourTrier x = simple(0, 1, links(-1), 0);
        due("find(FLOATING)", x.find(FLOATING), 4);
        row("LOAD before CLEAR", x, LOOK, LOOK, load(0, 0, 0), END);
        x.point(0, 0, 0);
        due("find(FLOATING), the FIELD has the OBJECT itself", x.find(FLOATING), 4);
        row("CLEAR alone", x, LOOK, LOOK, clear(0), END);
        // A second ROOT with NOTHING: COPY (3) comes before both.
        ColourTrier y = simple(0, 1, links(-1), 0, -1);
        due("find(FLOATING)", y.find(FLOATING), 5);
        row("COPY first", y, LOOK, LOOK, LOOK, copy(0, 1), END);
    }

    // ---- Promises 8 to 14

    private static void playNumbers() {
        ColourTrier x = largest(0, 8);
        thrown("play(0)", null, () -> x.play(0));
        thrown("play(49)", null, () -> x.play(49));
        due("has(2) behind 49", x.has(2), -1);
        ColourTrier over = new ColourTrier();
        playAll(over, LOOK, END);
        for (ColourTrier y : new ColourTrier[] {x, over, new ColourTrier()}) {
            for (int act : new int[] {-1, 50, -49, 99, Integer.MIN_VALUE, Integer.MAX_VALUE}) {
                thrown("play(" + act + ")", ARGUMENT, () -> y.play(act));
            }
        }
        for (int act = 0; act < 50; act++) {
            int tried = act;
            thrown("play(" + act + ") when it is over", STATE, () -> over.play(tried));
        }
    }

    private static void againFromAnywhere() {
        ColourTrier x = farFromTheFirst(64, 3);
        due("again() when it was over", x.again(), 1 + 2 + 4 + 4 + 2);
        due("field(0, 0)", x.field(0, 0), 1);
        due("has(1)", x.has(1), 1);
        isFirst("behind again", x, 3);
        due("again()", x.again(), 13);
        due("again() at the first", x.again(), 13);
        isFirst("behind again twice", x, 3);
        ColourTrier y = new ColourTrier();
        due("again() of a new object", y.again(), 1);
    }

    private static void whatNumbers() {
        ColourTrier x = largest(127, 8);
        range("broken(n)", 0, 3, n -> x.broken(n));
        range("count(n)", 0, 8, n -> x.count(n));
        range("colour(n)", 0, 3, n -> x.colour(n));
    }

    private static void countsAtTheirEnds() {
        ColourTrier x = largest(127, 8);
        int[] most = {4, 2, 3, 127, 8, 0, 0, 0, 8};
        for (int what = 0; what < 9; what++) {
            due("count(" + what + ") of the largest", x.count(what), most[what]);
        }
        for (int left = 7; left >= 0; left--) {
            x.play(copy(0, 1));
            due("count(8)", x.count(8), left);
        }
        due("count(4)", x.count(4), 8);
        looks(x, 3 + 8);
        due("count(7) before END", x.count(7), 0);
        x.play(END);
        due("count(7) behind END", x.count(7), 1);
        due("count(8) when it is over", x.count(8), 0);
        due("count(5) before a find", x.count(5), 0);
    }

    /** The last of 512 calls is answered as the first was. */
    private static void fiveHundredTwelveCalls() {
        ColourTrier x = simple(0, 1, links(-1), 0);
        int calls = 4;
        while (calls < 512) {
            due("find(FLOATING), call " + (calls + 1), x.find(FLOATING), 4);
            due("count(5)", x.count(5), 13);
            calls += 2;
        }
    }

    private static void run(String words, Runnable test) {
        sentence = words;
        try {
            test.run();
        } catch (RuntimeException e) {
            fault("ended by " + e + " at " + Arrays.toString(e.getStackTrace()));
        }
    }

    private static void terms() {
        run("OBJECTS 0 .. objects - 1 (1 .. 4), each with FIELDS 0 .. fields - 1 (1, 2), ROOTS 0 .. roots - 1 (1 .. 3)",
            BoundariesTest::sizesTaken);
        run("what FIELDS and ROOTS have: an OBJECT or NOTHING (at first)", BoundariesTest::nothingAtFirst);
        run("ACTS: how many acts the program has, 0 .. 8", BoundariesTest::actsOfTheProgram);
        run("At first as the SET-UP tells, all WHITE, no ROOT looked at", BoundariesTest::firstState);
        run("not all ROOTS were looked at: at the next one (0, 1, ..)", BoundariesTest::rootsInOrder);
        run("of the least GREY OBJECT at the next FIELD (0, 1, ..)", BoundariesTest::fieldsInOrder);
        run("becomes GREY, if it is WHITE", BoundariesTest::notWhiteStays);
        run("It can be done while it is not over, if a ROOT was not looked at, or one is GREY",
            BoundariesTest::whenLookCanBeDone);
        run("it is over (if it is not, all ROOTS were looked at, and none is GREY", BoundariesTest::whenEndCanBeDone);
        run("with BARRIER 32: first, what ROOTS have, in order, becomes GREY", BoundariesTest::endWithBarrier32);
        run("ACTS, by numbers", BoundariesTest::numbersOfActs);
        run("each takes one of its acts, while it is not over", BoundariesTest::whileItIsNotOver);
        run("LOAD, STORE only if there is that OBJECT", BoundariesTest::onlyIfThereIsThatObject);
        run("a, b ROOTS, f a FIELD", BoundariesTest::actsBeyondTheSetUp);
        run("NEW, OLD may be NOTHING", BoundariesTest::newAndOldMayBeNothing);
        run("Several: 1, 2, 4, 8 in this order, then the FIELD changes", BoundariesTest::severalInOrder);
        run("X becomes GREY again, none of its FIELDS looked at", BoundariesTest::greyAgainFromTheFirstField);
        run("an OBJECT that ROOTS lead to (over FIELDS) is WHITE", BoundariesTest::lostAtTheEndOfTheLongestWay);
        run("LOST: it is over", BoundariesTest::lostInARootItself);
        run("to which no GREY one leads over WHITE ones alone", BoundariesTest::strongAndWeak);
        run("over WHITE ones alone", BoundariesTest::weakOverABlackOne);
        run("no GREY one leads", BoundariesTest::weakOverAFieldLookedAt);
        run("an OBJECT that ROOTS do not lead to is BLACK", BoundariesTest::floatingWithoutRoots);
    }

    private static void promises() {
        run("One OBJECT with one FIELD, one ROOT; NOTHING anywhere; no BARRIERS, no ACTS", BoundariesTest::newObject);
        run("A new SET-UP; NOTHING anywhere, BARRIERS and ACTS stay", BoundariesTest::sizeBeginsAnew);
        run("FIELD f of an OBJECT has to at first (-1: NOTHING)", BoundariesTest::pointBeginsAnew);
        run("ROOT i has an OBJECT at first (-1: NOTHING)", BoundariesTest::rootBeginsAnew);
        run("BARRIERS, 0 .. 127, and ACTS, 0 .. 8", BoundariesTest::barriersTaken);
        run("rules: The STATE is the first one", BoundariesTest::rulesBeginAnew);
        run("find: what 0 .. 3", BoundariesTest::findWhat);
        run("The first STATE counts", BoundariesTest::statesOfTheSmallest);
        run("ROW is empty with -1 and -2", BoundariesTest::emptyRows);
        run("how many acts", BoundariesTest::longRow);
        run("Act i of the ROW of the latest find", BoundariesTest::rowOfTheLatestFind);
        run("STATES in the order in which they are come to", BoundariesTest::findFromTheFirstState);
        run("more than 20000 STATES would be come to: -2", BoundariesTest::limit);
        run("the first that is BROKEN ends it", BoundariesTest::brokenAtTheLimit);
        run("of these the one with the least acts, from the first on", BoundariesTest::leastOfTheShortest);
        run("an act, 0 .. 49; it can not be done: IllegalStateException", BoundariesTest::playNumbers);
        run("again: The STATE is the first one", BoundariesTest::againFromAnywhere);
        run("broken: what 0 .. 3; count: what 0 .. 8", BoundariesTest::whatNumbers);
        run("acts that the program has left in it", BoundariesTest::countsAtTheirEnds);
        run("An object is used for at most 512 calls", BoundariesTest::fiveHundredTwelveCalls);
    }

    public static void main(String[] args) {
        terms();
        promises();
        System.out.println(wrong == 0 ? "all answers are as due" : wrong + " answers are not as due");
        if (wrong != 0) {
            System.exit(1);
        }
    }
}
