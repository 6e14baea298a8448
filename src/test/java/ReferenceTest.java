import java.util.ArrayList;
import java.util.Arrays;
import java.util.HashMap;
import java.util.List;
import java.util.Map;
import java.util.Random;

/**
 * Sets ColourTrier beside a slow model that was written from the document alone, with arrays in
 * place of bits and a list of successors in place of numbers taken apart. No object gets more
 * than 512 calls.
 */
public final class ReferenceTest {
    private static final int LIMIT = 20000;
    private static int wrong = 0;

    private static void due(String call, long got, long want) {
        if (got != want) {
            wrong++;
            System.out.println(call + " answered " + got + ", due is " + want);
        }
    }

    /** A set-up and a state at once: a search copies it for each act. */
    private static final class Model {
        int objects = 1, fields = 1, roots = 1, barriers = 0;
        int[][] has = new int[4][2];
        int[] root = new int[3];
        char[] colour = {'W', 'W', 'W', 'W'};
        int[] looked = new int[4];
        int rootsLooked = 0;
        boolean over = false;
        int left = 0;

        Model() {
            for (int[] row : has) {
                Arrays.fill(row, -1);
            }
            Arrays.fill(root, -1);
        }

        Model copy() {
            Model m = new Model();
            m.objects = objects;
            m.fields = fields;
            m.roots = roots;
            m.barriers = barriers;
            for (int o = 0; o < 4; o++) {
                m.has[o] = has[o].clone();
            }
            m.root = root.clone();
            m.colour = colour.clone();
            m.looked = looked.clone();
            m.rootsLooked = rootsLooked;
            m.over = over;
            m.left = left;
            return m;
        }

        String key() {
            StringBuilder b = new StringBuilder();
            for (int o = 0; o < objects; o++) {
                for (int f = 0; f < fields; f++) {
                    b.append(has[o][f]).append(',');
                }
                b.append(colour[o]);
                if (colour[o] == 'G') {
                    b.append(looked[o]);
                }
            }
            for (int i = 0; i < roots; i++) {
                b.append(root[i]).append(';');
            }
            return b.append(rootsLooked).append(over).append(left).toString();
        }

        boolean white(int o) {
            return o >= 0 && colour[o] == 'W';
        }

        boolean grey(int o) {
            if (!white(o)) {
                return false;
            }
            colour[o] = 'G';
            looked[o] = 0;
            return true;
        }

        int leastGrey() {
            for (int o = 0; o < objects; o++) {
                if (colour[o] == 'G') {
                    return o;
                }
            }
            return -1;
        }

        /** What can be done, by number, with what is behind it; null where it can not be done. */
        Model[] successors() {
            Model[] to = new Model[50];
            if (over) {
                return to;
            }
            if (rootsLooked < roots || leastGrey() >= 0) {
                to[0] = copy();
                to[0].look();
            } else {
                to[1] = copy();
                to[1].end();
            }
            if (left > 0) {
                for (int a = 0; a < roots; a++) {
                    programActs(to, a);
                }
            }
            return to;
        }

        void programActs(Model[] to, int a) {
            for (int b = 0; b < roots; b++) {
                if (a != b) {
                    to[2 + 3 * a + b] = copy().rootGets(a, root[b], true);
                }
                for (int f = 0; f < fields; f++) {
                    if (root[b] >= 0) {
                        to[11 + 6 * a + 2 * b + f] = copy().rootGets(a, has[root[b]][f], true);
                    }
                    if (root[a] >= 0) {
                        to[29 + 6 * a + 2 * b + f] = copy().store(root[a], f, root[b]);
                    }
                }
            }
            to[47 + a] = copy().rootGets(a, -1, false);
        }

        void look() {
            if (rootsLooked < roots) {
                grey(root[rootsLooked++]);
                return;
            }
            int o = leastGrey();
            grey(has[o][looked[o]++]);
            if (looked[o] == fields) {
                colour[o] = 'B';
            }
        }

        void end() {
            boolean some = false;
            for (int i = 0; i < roots && (barriers & 32) != 0; i++) {
                some |= grey(root[i]);
            }
            over = !some;
        }

        Model rootGets(int a, int what, boolean loadOrCopy) {
            left--;
            if ((barriers & 64) != 0) {
                grey(root[a]);
            }
            if ((barriers & 16) != 0 && loadOrCopy) {
                grey(what);
            }
            root[a] = what;
            return this;
        }

        Model store(int x, int f, int fresh) {
            left--;
            if ((barriers & 1) != 0) {
                grey(has[x][f]);
            }
            if ((barriers & 2) != 0) {
                grey(fresh);
            }
            if ((barriers & 4) != 0 && colour[x] == 'B') {
                grey(fresh);
            }
            if ((barriers & 8) != 0 && colour[x] == 'B' && white(fresh)) {
                colour[x] = 'G';
                looked[x] = 0;
            }
            has[x][f] = fresh;
            return this;
        }

        void mark(boolean[] seen, int o, boolean whitesAlone) {
            if (o < 0 || seen[o] || whitesAlone && colour[o] != 'W') {
                return;
            }
            seen[o] = true;
            for (int f = 0; f < fields; f++) {
                mark(seen, has[o][f], whitesAlone);
            }
        }

        boolean isBroken(int what) {
            boolean[] needed = new boolean[4];
            for (int i = 0; i < roots; i++) {
                mark(needed, root[i], false);
            }
            boolean[] guarded = new boolean[4];
            for (int o = 0; o < objects; o++) {
                for (int f = 0; f < fields && colour[o] == 'G'; f++) {
                    mark(guarded, has[o][f], true);
                }
            }
            boolean broken = false;
            for (int o = 0; o < objects; o++) {
                if (what == 0) {
                    broken |= over && needed[o] && colour[o] == 'W';
                }
                if (what == 3) {
                    broken |= over && !needed[o] && colour[o] == 'B';
                }
                for (int f = 0; f < fields && colour[o] == 'B' && (what == 1 || what == 2); f++) {
                    broken |= white(has[o][f]) && (what == 1 || !guarded[has[o][f]]);
                }
            }
            return broken;
        }
    }

    /** What a find is due to answer. */
    private static final class Found {
        int answer, states;
        List<Integer> row = new ArrayList<>();
    }

    private static Found search(Model first, int what) {
        Found found = new Found();
        Map<String, Integer> known = new HashMap<>();
        List<Model> order = new ArrayList<>();
        List<List<Integer>> rows = new ArrayList<>();
        known.put(first.key(), 0);
        order.add(first);
        rows.add(new ArrayList<>());
        found.answer = first.isBroken(what) ? 0 : -1;
        for (int at = 0; at < order.size() && found.answer == -1; at++) {
            Model[] to = order.get(at).successors();
            for (int act = 0; act < 50 && found.answer == -1; act++) {
                if (to[act] == null || known.containsKey(to[act].key())) {
                    continue;
                }
                if (order.size() == LIMIT) {
                    found.answer = -2;
                    break;
                }
                List<Integer> row = new ArrayList<>(rows.get(at));
                row.add(act);
                known.put(to[act].key(), order.size());
                order.add(to[act]);
                rows.add(row);
                if (to[act].isBroken(what)) {
                    found.answer = row.size();
                    found.row = row;
                }
            }
        }
        found.states = order.size();
        return found;
    }

    private static Model setUp(ColourTrier x, int[] sizes, int barriers, int acts, Random random) {
        int[] links = new int[sizes[0] * sizes[1] + sizes[2]];
        for (int n = 0; n < links.length; n++) {
            links[n] = random.nextInt(sizes[0] + 1) - 1;
        }
        return setUp(x, sizes, barriers, acts, links);
    }

    /** What FIELDS have, OBJECT by OBJECT, and then what ROOTS have. */
    private static Model setUp(ColourTrier x, int[] sizes, int barriers, int acts, int... links) {
        Model m = new Model();
        int n = 0;
        m.objects = sizes[0];
        m.fields = sizes[1];
        m.roots = sizes[2];
        m.barriers = barriers;
        m.left = acts;
        x.size(sizes[0], sizes[1], sizes[2]);
        x.rules(barriers, acts);
        for (int o = 0; o < m.objects; o++) {
            for (int f = 0; f < m.fields; f++) {
                m.has[o][f] = links[n++];
                x.point(o, f, m.has[o][f]);
            }
        }
        for (int i = 0; i < m.roots; i++) {
            m.root[i] = links[n++];
            x.root(i, m.root[i]);
        }
        return m;
    }

    private static void compareFind(String name, ColourTrier x, Model first, int what) {
        Found found = search(first, what);
        String call = name + " find(" + what + ")";
        due(call, x.find(what), found.answer);
        due(call + " count(5)", x.count(5), found.states);
        due(call + " count(6)", x.count(6), found.row.size());
        for (int i = 0; i < found.row.size() && i < x.count(6); i++) {
            due(call + " act(" + i + ")", x.act(i), found.row.get(i));
        }
    }

    private static int possible(Model[] to) {
        int n = 0;
        for (Model m : to) {
            n += m == null ? 0 : 1;
        }
        return n;
    }

    private static void compareState(String name, ColourTrier x, Model m) {
        for (int o = 0; o < m.objects; o++) {
            due(name + " colour(" + o + ")", x.colour(o), "WGB".indexOf(m.colour[o]));
            for (int f = 0; f < m.fields; f++) {
                due(name + " field(" + o + ", " + f + ")", x.field(o, f), m.has[o][f]);
            }
        }
        for (int i = 0; i < m.roots; i++) {
            due(name + " has(" + i + ")", x.has(i), m.root[i]);
        }
        for (int what = 0; what < 4; what++) {
            due(name + " broken(" + what + ")", x.broken(what) ? 1 : 0, m.isBroken(what) ? 1 : 0);
        }
        due(name + " count(7)", x.count(7), m.over ? 1 : 0);
        due(name + " count(8)", x.count(8), m.left);
    }

    private static void comparePlay(String name, ColourTrier x, Model first, Random random) {
        Model now = first;
        // To look at each third STATE keeps an object below its 512 calls.
        int shownAt = random.nextInt(3);
        int rare = 2 + random.nextInt(3);
        due(name + " again()", x.again(), possible(first.successors()));
        for (int step = 0; step < 60; step++) {
            // The collector's acts come often, so that plays reach the end, but not in all plays as often.
            int act = random.nextInt(rare) == 0 ? random.nextInt(2) : random.nextInt(50);
            String call = name + " step " + step + " play(" + act + ")";
            Model next = now.successors()[act];
            int answer = -1;
            try {
                answer = x.play(act);
            } catch (IllegalStateException e) {
                due(call + " throws", 1, next == null ? 1 : 0);
            }
            now = next == null ? now : next;
            due(call, answer, next == null ? -1 : possible(now.successors()));
            if (step % 3 == shownAt) {
                compareState(call, x, now);
            }
        }
    }

    /** All barriers with small sizes, chosen sizes with chosen barriers: finds and plays. */
    private static void compareManySetups() {
        Random random = new Random(20261115);
        for (int n = 0; n < 900; n++) {
            int[] sizes = {1 + random.nextInt(4), 1 + random.nextInt(2), 1 + random.nextInt(3)};
            int barriers = n < 256 ? n % 128 : random.nextInt(128) & random.nextInt(128);
            int acts = random.nextInt(sizes[0] * sizes[1] * sizes[2] > 8 ? 3 : 5);
            ColourTrier x = new ColourTrier();
            Model m = setUp(x, sizes, barriers, acts, random);
            String name = "set-up " + n + " " + Arrays.toString(sizes) + " " + barriers + " " + acts;
            compareFind(name, x, m, n % 4);
            compareFind(name, x, m, random.nextInt(4));
        }
        for (int n = 0; n < 1800; n++) {
            int[] sizes = {1 + random.nextInt(4), 1 + random.nextInt(2), 1 + random.nextInt(3)};
            int barriers = n % 128;
            int acts = random.nextInt(9);
            ColourTrier x = new ColourTrier();
            Model m = setUp(x, sizes, barriers, acts, random);
            comparePlay("play " + n + " " + Arrays.toString(sizes) + " " + barriers + " " + acts, x, m, random);
        }
    }

    /** Large set-ups, most of which pass the limit. */
    private static void compareLargeSetups() {
        Random random = new Random(7);
        for (int n = 0; n < 24; n++) {
            int[] sizes = {3 + n % 2, 2, 2 + n % 2};
            ColourTrier x = new ColourTrier();
            Model m = setUp(x, sizes, n % 3 == 0 ? 127 : 1 << n % 7, 3 + n % 6, random);
            compareFind("large " + n, x, m, n % 4);
        }
    }

    /** 20000 STATES in all, one more, a BROKEN one as the 20000th, and one as the 20001st. */
    private static void compareAtTheLimit() {
        ColourTrier x = new ColourTrier();
        compareFind("20000 in all", x, setUp(x, new int[] {2, 1, 3}, 38, 8, 0, 0, 1, 1, 0), 0);
        due("20000 in all: count(5)", x.count(5), LIMIT);
        compareFind("20001 in all", x, setUp(x, new int[] {2, 1, 3}, 40, 8, 1, 1, 0, 0, 1), 0);
        compareFind("20000th", x, setUp(x, new int[] {3, 2, 3}, 32, 5, 0, -1, 1, -1, -1, 2, 1, 2, 1), 1);
        due("20000th: count(5)", x.count(5), LIMIT);
        compareFind("20001st", x, setUp(x, new int[] {3, 1, 3}, 2, 4, 0, 1, 2, 0, 1, 2), 0);
    }

    /** The example of README.md, whose STATES are too many to be counted by hand. */
    private static void compareTheExample() {
        ColourTrier x = new ColourTrier();
        int[] sizes = {3, 2, 2};
        compareFind("the example", x, setUp(x, sizes, 0, 2, 1, -1, -1, 2, -1, -1, 0, -1), 0);
        due("the example: count(5)", x.count(5), 396);
        compareFind("the example with BARRIER 1", x, setUp(x, sizes, 1, 2, 1, -1, -1, 2, -1, -1, 0, -1), 0);
        due("the example with BARRIER 1: count(5)", x.count(5), 585);
    }

    public static void main(String[] args) {
        compareTheExample();
        compareManySetups();
        compareLargeSetups();
        compareAtTheLimit();
        System.out.println(wrong == 0 ? "all answers are as due" : wrong + " answers are not as due");
        if (wrong != 0) {
            System.exit(1);
        }
    }
}
