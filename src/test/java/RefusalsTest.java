import java.util.ArrayList;
import java.util.List;
import java.util.function.Consumer;
import java.util.function.Supplier;

/**
 * "What is thrown, in this order: IllegalArgumentException: a number out of range; then as told. A
 * call that throws changes nothing."
 *
 * Every call that must be refused is made at many stages of an object's life. What can be seen
 * then, and all that comes of going on from there, must be as on a twin that never had the call:
 * so that a change of something that no call shows (how many ROOTS and FIELDS were looked at, what
 * the set-up has at first) is told too. No object gets more than 512 calls.
 */
public final class RefusalsTest {
    private static final Class<?> ARGUMENT = IllegalArgumentException.class;
    private static final Class<?> STATE = IllegalStateException.class;
    private static final Class<?> INDEX = IndexOutOfBoundsException.class;

    private static final int LOOK = 0;
    private static final int END = 1;
    private static final int NEITHER = -1;
    private static final int FLOATING = 3;

    private static int wrong = 0;

    /** A call that is due to be refused. */
    private record Refusal(String call, Class<?> due, Consumer<ColourTrier> run) { }

    /** A stage that an object can be brought to, and which of LOOK and END can be done there. */
    private record Stage(String name, int collector, Supplier<ColourTrier> made) { }

    private static void fault(String text) {
        wrong++;
        System.out.println(text);
    }

    private static Class<?> thrownBy(Refusal refusal, ColourTrier x) {
        try {
            refusal.run().accept(x);
            return null;
        } catch (RuntimeException e) {
            return e.getClass();
        }
    }

    private static int copy(int a, int b) {
        return 2 + 3 * a + b;
    }

    private static int load(int a, int b, int f) {
        return 11 + 6 * a + 2 * b + f;
    }

    private static int store(int a, int b, int f) {
        return 29 + 6 * a + 2 * b + f;
    }

    private static int clear(int a) {
        return 47 + a;
    }

    private static ColourTrier playing(ColourTrier x, int... acts) {
        for (int act : acts) {
            x.play(act);
        }
        return x;
    }

    /** OBJECT 0 has 1 in FIELD 0, OBJECT 1 has 2 in FIELD 1; ROOT 0 has 0, ROOT 1 NOTHING. */
    private static ColourTrier chain(int barriers, int acts) {
        ColourTrier x = new ColourTrier();
        x.size(3, 2, 2);
        x.root(0, 0);
        x.point(0, 0, 1);
        x.point(1, 1, 2);
        x.rules(barriers, acts);
        return x;
    }

    private static ColourTrier chainWithRow(int barriers, int acts) {
        ColourTrier x = chain(barriers, acts);
        x.find(FLOATING);
        return x;
    }

    /** As large as a set-up can be; all OBJECTS hang on each other, ROOT 1 has NOTHING. */
    private static ColourTrier largest(int barriers, int acts) {
        ColourTrier x = new ColourTrier();
        x.size(4, 2, 3);
        x.rules(barriers, acts);
        x.root(0, 3);
        x.root(2, 2);
        for (int o = 0; o < 4; o++) {
            x.point(o, 0, 3 - o);
            x.point(o, 1, (o + 1) % 4);
        }
        return x;
    }

    private static ColourTrier smallest(int barriers, int acts) {
        ColourTrier x = new ColourTrier();
        x.root(0, 0);
        x.point(0, 0, 0);
        x.rules(barriers, acts);
        x.find(FLOATING);
        return x;
    }

    /** One that passes the limit of 20000 STATES. */
    private static ColourTrier pastTheLimit() {
        ColourTrier x = new ColourTrier();
        x.size(2, 1, 3);
        x.rules(40, 8);
        x.point(0, 0, 1);
        x.point(1, 0, 1);
        x.root(0, 0);
        x.root(1, 0);
        x.root(2, 1);
        x.find(0);
        x.rules(40, 1);
        return x;
    }

    private static List<Stage> stages() {
        List<Stage> all = new ArrayList<>();
        all.add(new Stage("a new object", LOOK, ColourTrier::new));
        all.add(new Stage("a new object, its ROOT looked at", END, () -> playing(new ColourTrier(), LOOK)));
        all.add(new Stage("a new object, over", NEITHER, () -> playing(new ColourTrier(), LOOK, END)));
        all.add(new Stage("the smallest, a row found", LOOK, () -> smallest(0, 2)));
        all.add(new Stage("the smallest, its acts used up", LOOK,
            () -> playing(smallest(127, 2), store(0, 0, 0), clear(0))));
        all.add(new Stage("the first STATE, a row found", LOOK, () -> chainWithRow(16, 2)));
        all.add(new Stage("one ROOT of two looked at", LOOK,
            () -> playing(chainWithRow(16, 2), LOOK, load(1, 0, 0))));
        all.add(new Stage("a GREY one with one FIELD looked at", LOOK,
            () -> playing(chainWithRow(4, 2), LOOK, LOOK, LOOK, store(0, 0, 1))));
        all.add(new Stage("a BLACK, a GREY and a WHITE one", LOOK,
            () -> playing(chainWithRow(8, 2), LOOK, LOOK, LOOK, LOOK, copy(1, 0))));
        all.add(new Stage("the acts used up in the middle", LOOK,
            () -> playing(chainWithRow(1, 2), LOOK, clear(1), LOOK, LOOK, store(0, 1, 0))));
        all.add(new Stage("ready for END", END,
            () -> playing(chainWithRow(0, 2), LOOK, LOOK, clear(0), LOOK, LOOK, LOOK, LOOK, LOOK, LOOK)));
        all.add(new Stage("over, with an act left", NEITHER,
            () -> playing(chainWithRow(0, 2), LOOK, LOOK, clear(0), LOOK, LOOK, LOOK, LOOK, LOOK, LOOK, END)));
        all.add(new Stage("over, with none left", NEITHER,
            () -> playing(chain(0, 0), LOOK, LOOK, LOOK, LOOK, LOOK, LOOK, LOOK, LOOK, END)));
        all.add(new Stage("the largest, two ROOTS of three looked at", LOOK,
            () -> playing(largest(64, 1), LOOK, LOOK)));
        all.add(new Stage("the largest, two GREY ones", LOOK,
            () -> playing(largest(0, 1), LOOK, load(1, 0, 1), LOOK, LOOK, LOOK)));
        all.add(new Stage("behind a find of -2", LOOK, RefusalsTest::pastTheLimit));
        return all;
    }

    private static void append(StringBuilder to, String name, int answer) {
        to.append(name).append(' ').append(answer).append(' ');
    }

    /** All that the calls without a change tell. */
    private static void seen(StringBuilder to, ColourTrier x) {
        int[] counts = new int[9];
        for (int what = 0; what < 9; what++) {
            counts[what] = x.count(what);
            append(to, "count", counts[what]);
        }
        for (int o = 0; o < counts[0]; o++) {
            append(to, "colour", x.colour(o));
            for (int f = 0; f < counts[1]; f++) {
                append(to, "field", x.field(o, f));
            }
        }
        for (int i = 0; i < counts[2]; i++) {
            append(to, "has", x.has(i));
        }
        for (int i = 0; i < counts[6]; i++) {
            append(to, "act", x.act(i));
        }
        for (int what = 0; what < 4; what++) {
            append(to, "broken", x.broken(what) ? 1 : 0);
        }
    }

    /** The collector to its end: tells how many ROOTS and FIELDS were looked at before. */
    private static void goOn(StringBuilder to, ColourTrier x, int collector) {
        int objects = x.count(0);
        int act = collector;
        for (int step = 0; step < 30 && act != NEITHER; step++) {
            try {
                append(to, "play", x.play(act));
                act = x.count(7) == 1 ? NEITHER : LOOK;
            } catch (IllegalStateException e) {
                append(to, "no", act);
                act = act == LOOK ? END : NEITHER;
            }
            for (int o = 0; o < objects; o++) {
                append(to, "colour", x.colour(o));
            }
        }
    }

    /** What an object shows, and all that comes of going on with it. */
    private static String trace(ColourTrier x, int collector) {
        StringBuilder to = new StringBuilder();
        seen(to, x);
        goOn(to, x, collector);
        seen(to, x);
        append(to, "again", x.again());
        seen(to, x);
        append(to, "find", x.find(FLOATING));
        seen(to, x);
        return to.toString();
    }

    private static int[] outside(int least, int greatest) {
        return new int[] {least - 1, greatest + 1, Integer.MIN_VALUE, Integer.MAX_VALUE};
    }

    /** The numbers that are not out of range are others than the object has, so that a half-done call is seen. */
    private static void setUpRefusals(List<Refusal> all, int objects, int fields, int roots) {
        int o = objects % 4 + 1;
        int f = 3 - fields;
        int r = roots % 3 + 1;
        for (int n : outside(1, 4)) {
            all.add(new Refusal("size(" + n + ", " + f + ", " + r + ")", ARGUMENT, x -> x.size(n, f, r)));
        }
        for (int n : outside(1, 2)) {
            all.add(new Refusal("size(" + o + ", " + n + ", " + r + ")", ARGUMENT, x -> x.size(o, n, r)));
        }
        for (int n : outside(1, 3)) {
            all.add(new Refusal("size(" + o + ", " + f + ", " + n + ")", ARGUMENT, x -> x.size(o, f, n)));
        }
        for (int n : outside(0, 127)) {
            all.add(new Refusal("rules(" + n + ", 7)", ARGUMENT, x -> x.rules(n, 7)));
        }
        for (int n : outside(0, 8)) {
            all.add(new Refusal("rules(85, " + n + ")", ARGUMENT, x -> x.rules(85, n)));
        }
        all.add(new Refusal("size(0, 3, 4)", ARGUMENT, x -> x.size(0, 3, 4)));
        all.add(new Refusal("rules(128, 9)", ARGUMENT, x -> x.rules(128, 9)));
    }

    private static void linkRefusals(List<Refusal> all, int objects, int fields, int roots) {
        int last = objects - 1;
        for (int n : outside(0, objects - 1)) {
            all.add(new Refusal("point(" + n + ", 0, 0)", ARGUMENT, x -> x.point(n, 0, 0)));
            all.add(new Refusal("field(" + n + ", 0)", ARGUMENT, x -> x.field(n, 0)));
            all.add(new Refusal("colour(" + n + ")", ARGUMENT, x -> x.colour(n)));
        }
        for (int n : outside(0, fields - 1)) {
            all.add(new Refusal("point(0, " + n + ", -1)", ARGUMENT, x -> x.point(0, n, -1)));
            all.add(new Refusal("field(0, " + n + ")", ARGUMENT, x -> x.field(0, n)));
        }
        for (int n : outside(-1, objects - 1)) {
            all.add(new Refusal("point(" + last + ", 0, " + n + ")", ARGUMENT, x -> x.point(last, 0, n)));
            all.add(new Refusal("root(0, " + n + ")", ARGUMENT, x -> x.root(0, n)));
        }
        for (int n : outside(0, roots - 1)) {
            all.add(new Refusal("root(" + n + ", 0)", ARGUMENT, x -> x.root(n, 0)));
            all.add(new Refusal("has(" + n + ")", ARGUMENT, x -> x.has(n)));
        }
        all.add(new Refusal("point(-1, 2, -2)", ARGUMENT, x -> x.point(-1, 2, -2)));
        all.add(new Refusal("root(3, 4)", ARGUMENT, x -> x.root(3, 4)));
        all.add(new Refusal("field(4, 2)", ARGUMENT, x -> x.field(4, 2)));
    }

    /** Of play too a number out of range comes first, where no act at all can be done. */
    private static void otherRefusals(List<Refusal> all, int rowLength) {
        for (int n : outside(0, 3)) {
            all.add(new Refusal("find(" + n + ")", ARGUMENT, x -> x.find(n)));
            all.add(new Refusal("broken(" + n + ")", ARGUMENT, x -> x.broken(n)));
        }
        for (int n : outside(0, 8)) {
            all.add(new Refusal("count(" + n + ")", ARGUMENT, x -> x.count(n)));
        }
        for (int n : outside(0, 49)) {
            all.add(new Refusal("play(" + n + ")", ARGUMENT, x -> x.play(n)));
        }
        for (int n : outside(0, rowLength - 1)) {
            all.add(new Refusal("act(" + n + ")", INDEX, x -> x.act(n)));
        }
    }

    /** Which acts can be done, by the words of the document. */
    private static boolean[] possible(ColourTrier x, int collector) {
        boolean[] can = new boolean[50];
        if (collector == NEITHER) {
            return can;
        }
        can[collector] = true;
        int roots = x.count(2);
        for (int a = 0; a < roots && x.count(8) > 0; a++) {
            can[clear(a)] = true;
            for (int b = 0; b < roots; b++) {
                can[copy(a, b)] = a != b;
                for (int f = 0; f < x.count(1); f++) {
                    can[load(a, b, f)] = x.has(b) != -1;
                    can[store(a, b, f)] = x.has(a) != -1;
                }
            }
        }
        return can;
    }

    /** While it is not over either LOOK or END can be done, never both; the others as possible tells. */
    private static int howMany(ColourTrier x) {
        int n = 0;
        for (boolean can : possible(x, x.count(7) == 1 ? NEITHER : LOOK)) {
            n += can ? 1 : 0;
        }
        return n;
    }

    private static void actsOf(Stage stage, List<Refusal> refusals) {
        boolean[] can = possible(stage.made().get(), stage.collector());
        for (int n = 0; n < 50; n++) {
            int act = n;
            if (!can[act]) {
                refusals.add(new Refusal("play(" + act + ")", STATE, x -> x.play(act)));
                continue;
            }
            ColourTrier x = stage.made().get();
            try {
                int answer = x.play(act);
                if (answer != howMany(x)) {
                    fault(stage.name() + ": play(" + act + ") answered " + answer + ", due is " + howMany(x));
                }
            } catch (RuntimeException e) {
                fault(stage.name() + ": play(" + act + ") threw " + e + ", due is an answer");
            }
        }
    }

    private static void tryStage(Stage stage) {
        ColourTrier sample = stage.made().get();
        List<Refusal> refusals = new ArrayList<>();
        setUpRefusals(refusals, sample.count(0), sample.count(1), sample.count(2));
        linkRefusals(refusals, sample.count(0), sample.count(1), sample.count(2));
        otherRefusals(refusals, sample.count(6));
        actsOf(stage, refusals);
        String due = trace(stage.made().get(), stage.collector());
        for (Refusal refusal : refusals) {
            ColourTrier x = stage.made().get();
            Class<?> thrown = thrownBy(refusal, x);
            if (thrown != refusal.due()) {
                fault(stage.name() + ": " + refusal.call() + " threw " + thrown + ", due is " + refusal.due());
            }
            String got = trace(x, stage.collector());
            if (!got.equals(due)) {
                fault(stage.name() + ": " + refusal.call() + " changed something: " + got + " and not " + due);
            }
        }
        tryAllInARow(stage, refusals, due);
    }

    /** Many refused calls change no more than one. */
    private static void tryAllInARow(Stage stage, List<Refusal> refusals, String due) {
        ColourTrier x = stage.made().get();
        for (Refusal refusal : refusals) {
            thrownBy(refusal, x);
        }
        if (!trace(x, stage.collector()).equals(due)) {
            fault(stage.name() + ": all the refused calls in a row changed something");
        }
    }

    public static void main(String[] args) {
        for (Stage stage : stages()) {
            try {
                tryStage(stage);
            } catch (RuntimeException e) {
                fault(stage.name() + ": ended by " + e);
            }
        }
        System.out.println(wrong == 0 ? "all answers are as due" : wrong + " answers are not as due");
        if (wrong != 0) {
            System.exit(1);
        }
    }
}
