import java.util.Arrays;
import java.util.Random;

/** Long runs of calls, right and wrong ones, on InferReduce and on the Model: all answers must be alike. */
public final class RandomRunsTest {
    private static final int RUNS = 30000, CALLS = 500, NONE = -1, OUT = -9;
    private static final String[] FACE = {"declare", "parent", "plain", "of", "wild", "parameter", "array", "primitive",
        "nothing", "variable", "formula", "resolve", "clear", "count", "type", "bound", "instance", "above", "unchecked",
        "judge"};
    // how often each method is called, in the phases of telling classes, making types, and telling formulas
    private static final int[][] OFTEN = {
        {12, 12, 10, 14, 6, 10, 2, 1, 1, 1, 0, 0, 0, 1, 1, 0, 0, 3, 0, 0},
        {1, 2, 8, 20, 10, 2, 4, 2, 1, 6, 4, 0, 0, 1, 1, 0, 0, 4, 0, 0},
        {0, 1, 1, 6, 2, 0, 1, 0, 0, 1, 40, 3, 1, 2, 4, 6, 3, 4, 3, 6},
    };

    private final Random random;
    private final InferReduce real = new InferReduce();
    private final Model model = new Model();
    private final StringBuilder log = new StringBuilder();
    private final int wildness;
    private final boolean guided;
    // few classes and many variables make formulas that are true, and many bounds
    private final boolean narrow;
    private final int leaning;
    static final int[] seen = new int[17];

    private RandomRunsTest(long seed) {
        // Random's first answers are much alike for seeds that are near one another
        random = new Random(seed * 0x9E3779B97F4A7C15L);
        wildness = random.nextInt(4) == 0 ? 12 : 60;
        guided = seed % 8 != 0;
        narrow = random.nextBoolean();
        leaning = random.nextInt(3);
    }

    private int any(int low, int high) {
        return low + random.nextInt(high - low + 1);
    }

    /** Mostly a number from 0 to below most, now and then one outside. */
    private int number(int most) {
        if (random.nextInt(wildness) == 0) return any(-4, most + 3);
        if (random.nextInt(2000) == 0) return random.nextBoolean() ? Integer.MAX_VALUE : Integer.MIN_VALUE;
        return most <= 0 ? 0 : random.nextInt(most);
    }

    private int aType() {
        int n = model.types.size();
        // newer types are the deeper ones
        return random.nextInt(3) == 0 && n > 12 ? n - 1 - random.nextInt(12) : number(n);
    }

    private int aClass() {
        int n = model.params.size();
        return random.nextInt(5) != 0 && n > 9 ? any(9, n - 1) : number(n);
    }

    private int classWithParameters() {
        int c = aClass();
        for (int i = 0; i < 6 && (!model.isClass(c) || model.params.get(c) == 0); i++) c = aClass();
        return c;
    }

    private int formulaType(int sort) {
        int t = aType();
        for (int i = 0; i < 8 && !model.fits(sort, t); i++) t = aType();
        return t;
    }

    private int[] arguments(String name) {
        switch (name) {
            case "declare": return new int[] {number(3)};
            case "parent": {
                int cls = aClass(), t = aType();
                return new int[] {cls, t};
            }
            case "plain": return new int[] {aClass()};
            case "of": return new int[] {classWithParameters(), aType(), aType()};
            case "wild": return new int[] {number(3), aType()};
            case "parameter": return new int[] {classWithParameters(), number(2)};
            case "array": return new int[] {aType()};
            case "primitive": return new int[] {number(8)};
            case "formula": {
                int sort = random.nextInt(3) == 0 ? number(4) : random.nextInt(2);
                return new int[] {sort, formulaType(sort), formulaType(sort)};
            }
            case "count": return new int[] {number(8)};
            case "type": return new int[] {aType(), number(6)};
            case "bound": return new int[] {number(model.bounds.size()), number(4)};
            case "instance": return new int[] {number(model.variables)};
            case "above": return new int[] {aType(), aClass()};
            case "unchecked": case "judge": return new int[] {number(model.told.size())};
            default: return new int[0];
        }
    }

    private int onReal(String name, int[] x) {
        switch (name) {
            case "declare": return real.declare(x[0]);
            case "parent": return real.parent(x[0], x[1]);
            case "plain": return real.plain(x[0]);
            case "of": return real.of(x[0], x[1], x[2]);
            case "wild": return real.wild(x[0], x[1]);
            case "parameter": return real.parameter(x[0], x[1]);
            case "array": return real.array(x[0]);
            case "primitive": return real.primitive(x[0]);
            case "nothing": return real.nothing();
            case "variable": return real.variable();
            case "formula": return real.formula(x[0], x[1], x[2]);
            case "resolve": return real.resolve();
            case "clear": return real.clear();
            case "count": return real.count(x[0]);
            case "type": return real.type(x[0], x[1]);
            case "bound": return real.bound(x[0], x[1]);
            case "instance": return real.instance(x[0]);
            case "above": return real.above(x[0], x[1]);
            case "unchecked": return real.unchecked(x[0]);
            default: return real.judge(x[0]);
        }
    }

    private int onModel(String name, int[] x) {
        switch (name) {
            case "declare": return model.declare(x[0]);
            case "parent": return model.parent(x[0], x[1]);
            case "plain": return model.plain(x[0]);
            case "of": return model.of(x[0], x[1], x[2]);
            case "wild": return model.wild(x[0], x[1]);
            case "parameter": return model.parameter(x[0], x[1]);
            case "array": return model.array(x[0]);
            case "primitive": return model.primitive(x[0]);
            case "nothing": return model.nothing();
            case "variable": return model.variable();
            case "formula": return model.formula(x[0], x[1], x[2]);
            case "resolve": return model.resolve();
            case "clear": return model.clear();
            case "count": return model.count(x[0]);
            case "type": return model.type(x[0], x[1]);
            case "bound": return model.bound(x[0], x[1]);
            case "instance": return model.instance(x[0]);
            case "above": return model.above(x[0], x[1]);
            case "unchecked": return model.unchecked(x[0]);
            default: return model.judge(x[0]);
        }
    }

    private boolean call(String name, int... x) {
        log.append(name).append('(');
        for (int i = 0; i < x.length; i++) log.append(i == 0 ? "" : ", ").append(x[i]);
        int want = onModel(name, x), got = onReal(name, x);
        log.append(") = ").append(want).append('\n');
        if (want == got) return true;
        Check.due(log + "the last call", want, got);
        return false;
    }

    private boolean sameCounts() {
        for (int what = 0; what < 8; what++) {
            if (model.count(what) != real.count(what)) return call("count", what);
        }
        return true;
    }

    private boolean sameRows() {
        for (int t = 0; t < model.types.size(); t++) for (int w = 0; w < 6; w++) if (model.type(t, w) != real.type(t, w)) return call("type", t, w);
        for (int i = 0; i < model.bounds.size(); i++) for (int w = 0; w < 4; w++) if (model.bound(i, w) != real.bound(i, w)) return call("bound", i, w);
        for (int i = 0; i < model.told.size(); i++) if (!call("judge", i) || !call("unchecked", i)) return false;
        for (int i = 0; i < model.variables; i++) if (!call("instance", i)) return false;
        return sameCounts();
    }

    private String next(int phase) {
        int[] often = OFTEN[phase];
        int sum = 0;
        for (int o : often) sum += o;
        int at = random.nextInt(sum);
        for (int i = 0; i < often.length; i++) {
            at -= often[i];
            if (at < 0) return FACE[i];
        }
        return FACE[0];
    }

    /** A type made by calls, of classes below a number; parameters of the class owner may be in it. */
    private int build(int deep, int below, int owner, boolean variables) {
        int pick = random.nextInt(10);
        if (owner >= 9 && model.params.get(owner) > 0 && pick < 4) return made("parameter", owner, random.nextInt(model.params.get(owner)));
        if (variables && model.variables > 0 && pick < 5) return model.variableType(random.nextInt(model.variables));
        if (pick == 9 && deep > 0) return made("array", build(deep - 1, below, owner, variables));
        int cls = below > 9 && random.nextInt(5) != 0 ? any(9, below - 1) : narrow ? random.nextInt(2) : random.nextInt(9);
        int n = model.params.get(cls);
        if (n == 0 || deep <= 0 || random.nextInt(12) == 0) return made("plain", cls);
        int a = argument(deep - 1, below, owner, variables);
        return made("of", cls, a, n == 2 ? argument(deep - 1, below, owner, variables) : 0);
    }

    private int argument(int deep, int below, int owner, boolean variables) {
        int t = build(deep, below, owner, variables);
        if (random.nextInt(3) != 0) return t;
        return made("wild", random.nextInt(3), t);
    }

    private int made(String name, int... x) {
        int[] all = Arrays.copyOf(x, 3);
        int before = onModel(name, all);
        if (before != onReal(name, all)) Check.due(log + name + Arrays.toString(x), before, OUT);
        log.append(name).append(Arrays.toString(x)).append(" = ").append(before).append('\n');
        return before;
    }

    /** Leaves little room for types. */
    private void fill() {
        int left = any(0, 40);
        for (int i = 0; i < 200 && model.types.size() < 500 - left; i++) {
            int t = made("plain", random.nextInt(model.params.size()));
            for (int d = 0; d < 19 && model.types.size() < 500 - left; d++) {
                t = made("array", t);
                if (model.types.size() < 500 - left) made("wild", 1, t);
            }
        }
    }

    /** Classes that hold one another within wildcards, so that formulas come deep within one another. */
    private void tellChain() {
        int p = made("declare", 1), from = model.params.size(), seldom = any(1, 6) * 12;
        for (int n = any(2, 40); n > 0; n--) {
            int c = made("declare", random.nextInt(seldom) == 0 ? 1 : 0);
            if (c <= from) continue;
            // now and then the class itself, which was not told before
            int other = made("plain", random.nextInt(seldom) == 0 ? c : Math.max(from, c - random.nextInt(4) / 2 - 1));
            int inner = made("of", p, made("wild", random.nextInt(seldom) == 0 ? 1 : 2, other), 0);
            made("parent", c, made("of", p, inner, 0));
        }
        int last = model.params.size() - 1;
        made("variable");
        int end = random.nextInt(4) == 0 ? aVariable() : made("plain", last - random.nextInt(4));
        call("formula", random.nextInt(2), made("plain", last), made("of", p, made("wild", 2, end), 0));
        if (model.state == 2) seen[14]++;
        if (random.nextBoolean()) call("clear");
    }

    private void tellClasses() {
        for (int n = narrow ? any(1, 4) : any(2, 9); n > 0; n--) {
            int c = made("declare", random.nextInt(3));
            for (int k = random.nextInt(3); k > 0 && c > 9; k--) {
                int p = random.nextInt(12) == 0 ? any(1, 8) : any(9, c - 1);
                // now and then an argument with wildcards in it, or one of a class that is told later
                int in = random.nextInt(4) == 0 ? model.params.size() : c;
                int args = model.params.get(p);
                int t = args == 0 ? made("plain", p) : made("of", p, parentArgument(in, c), args == 2 ? parentArgument(in, c) : 0);
                made("parent", c, t);
            }
        }
    }

    /** A capture, if there is one above a type with wildcards of a class that is below a number; else NONE. */
    private int aCapture(int below) {
        int p = any(9, below - 1), n = model.params.get(p);
        if (n == 0) return NONE;
        int t = made("of", p, made("wild", random.nextInt(3), made("plain", 1)), n == 2 ? made("wild", 0) : 0);
        for (int g = 9; g < p; g++) {
            if (!model.hasAbove(p, g) || !call("above", t, g)) continue;
            int found = model.above(t, g);
            if (model.isType(found) && model.kind(found) == 1 && model.kind(model.b(found)) == 8) return model.b(found);
        }
        return NONE;
    }

    private int parentArgument(int below, int owner) {
        int capture = random.nextInt(15) == 0 ? aCapture(below) : NONE;
        if (capture >= 0) seen[15]++;
        if (capture >= 0) return random.nextBoolean() ? capture : made("array", capture);
        return random.nextInt(15) == 0 ? argument(2, below, owner, true) : build(random.nextInt(3), below, owner, false);
    }

    /** A type of a class above that of another type, so that formulas of both are not false at once. */
    private int higher(int t, boolean variables) {
        int cls = model.isType(t) && model.kind(t) < 2 ? model.a(t) : 0;
        for (int i = random.nextInt(3); i > 0 && !model.parents.get(cls).isEmpty(); i--) {
            cls = model.a(model.parents.get(cls).get(random.nextInt(model.parents.get(cls).size())));
        }
        int n = model.params.get(cls);
        if (n == 0 || random.nextInt(9) == 0) return made("plain", cls);
        int below = model.params.size();
        return made("of", cls, argument(1, below, NONE, variables), n == 2 ? argument(1, below, NONE, variables) : 0);
    }

    private int aVariable() {
        return model.variableType(random.nextInt(model.variables));
    }

    /** Bounds that mostly lie on one side of the variables, and so seldom come to false. */
    private boolean tellLeaning() {
        int deep = random.nextInt(3);
        int other = random.nextInt(3) == 0 ? aVariable() : build(deep, model.params.size(), NONE, random.nextInt(3) == 0);
        boolean lower = leaning == 1 ^ random.nextInt(12) == 0;
        int before = model.state;
        boolean same = (lower ? call("formula", 1, other, aVariable()) : call("formula", 1, aVariable(), other)) && sameCounts();
        note("formula", before);
        return same;
    }

    private boolean tellFormula() {
        int below = model.params.size();
        if (leaning > 0 && model.variables > 0 && random.nextInt(10) != 0) return tellLeaning();
        int s = build(random.nextInt(4), below, NONE, random.nextInt(3) != 0);
        int t = random.nextInt(3) == 0 ? build(random.nextInt(4), below, NONE, true) : higher(s, random.nextInt(3) != 0);
        if (model.variables > 0 && random.nextInt(narrow ? 2 : 3) == 0) s = model.variableType(random.nextInt(model.variables));
        else if (model.variables > 0 && random.nextInt(narrow ? 2 : 3) == 0) t = model.variableType(random.nextInt(model.variables));
        int sort = random.nextInt(10);
        if (sort == 9) s = argument(2, below, NONE, true);
        if (sort == 9) t = argument(2, below, NONE, true);
        if (random.nextInt(30) == 0) s = made(random.nextBoolean() ? "primitive" : "nothing", random.nextInt(8));
        if (random.nextInt(30) == 0) t = made(random.nextBoolean() ? "primitive" : "nothing", random.nextInt(8));
        int before = model.state;
        boolean same = call("formula", sort < 4 ? 1 : sort < 7 ? 0 : sort < 9 ? 3 : 2, s, t) && sameCounts();
        note("formula", before);
        return same;
    }

    /** Four bounds a formula, till there are nearly as many as there may be. */
    private boolean tellManyBounds() {
        int two = made("declare", 2), most = any(150, 205), sort = random.nextInt(5) == 0 ? 2 : 1;
        while (model.variables < 12 && made("variable") >= 0) { }
        if (two < 0 || model.variables < 12) return true;
        int[] right = new int[3], left = new int[20];
        for (int q = 0; q < right.length; q++) {
            int[] pairs = new int[2];
            for (int i = 0; i < 2; i++) {
                int first = model.variableType(4 * q + 2 * i), second = model.variableType(4 * q + 2 * i + 1);
                pairs[i] = made("of", two, made("wild", sort, first), made("wild", sort, second));
            }
            right[q] = made("of", two, made("wild", 1, pairs[0]), made("wild", 1, pairs[1]));
        }
        for (int k = 0; k < left.length; k++) {
            int t = random.nextInt(40) == 0 ? aVariable() : build(random.nextInt(3), model.params.size(), NONE, false);
            for (int d = k % 4; d > 0; d--) t = made("array", t);
            int pair = made("of", two, t, random.nextInt(5) == 0 ? made("array", t) : t);
            left[k] = made("of", two, pair, pair);
        }
        for (int n = 0; n < 59 && model.state == 0 && model.bounds.size() < most; n++) {
            if (!call("formula", 1, left[n % left.length], right[n / left.length % right.length]) || !sameCounts()) return false;
        }
        if (model.bounds.size() == 200) seen[9]++;
        if (model.bounds.size() > 180) seen[16]++;
        return call("resolve") && sameRows() && call("clear");
    }

    /** Two trees that come to nearly as many formulas as one call may make less. */
    private boolean tellManyFormulas() {
        int two = made("declare", 2), s = made("variable"), t = random.nextBoolean() ? made("variable") : made("plain", 1);
        if (two < 0 || s < 0 || t < 0) return true;
        if (random.nextBoolean() && !call("formula", 3, s, made("plain", 1))) return false;
        for (int d = any(12, 15); d > 0; d--) {
            s = random.nextInt(9) == 0 ? made("of", two, made("array", s), s) : made("of", two, s, s);
            t = random.nextInt(99) == 0 ? made("of", two, t, made("array", t)) : s == model.types.size() - 1 && model.kind(model.b(s)) == 4
                ? made("of", two, made("array", t), t) : made("of", two, t, t);
        }
        if (!call("formula", 3, s, t) || !sameCounts()) return false;
        if (model.inCall == 20000) seen[10]++;
        return call("resolve") && sameRows() && call("clear");
    }

    /** Variables that are captures, of types in which there are variables, too. */
    private boolean tellCaptures() {
        int g = made("declare", 1), h = made("declare", 1 + random.nextInt(2));
        if (h < 0) return true;
        int own = made("parameter", h, random.nextInt(model.params.get(h)));
        made("parent", h, made("of", g, random.nextInt(4) == 0 ? made("array", own) : own, 0));
        while (model.variables < any(2, 5) && made("variable") >= 0) { }
        for (int n = any(1, 6); n > 0 && model.variables > 0 && model.state == 0; n--) {
            int bound = random.nextInt(3) == 0 ? build(1, model.params.size(), NONE, true) : aVariable();
            int s = made("of", h, made("wild", any(0, 2), bound), random.nextBoolean() ? aVariable() : made("wild", any(0, 2), aVariable()));
            int t = random.nextInt(3) == 0 ? made("wild", any(1, 2), aVariable()) : aVariable();
            boolean same = random.nextInt(3) == 0 ? call("formula", any(0, 3), aVariable(), higher(s, true)) : call("formula", any(0, 1), s, made("of", g, t, 0));
            if (!same || !sameCounts()) return false;
            if (random.nextInt(3) == 0 && (!call("formula", any(1, 3), aVariable(), build(1, model.params.size(), NONE, false)) || !sameCounts())) return false;
        }
        for (Model.B b : model.bounds) if (model.kind(b.t()) == 8) seen[12]++;
        return call("resolve") && sameRows() && call("clear");
    }

    /** Variables that are wildcards, as arguments that are EQUAL, and other bounds of them. */
    private boolean tellWildcards() {
        int cls = made("declare", 1);
        while (model.variables < any(2, 5) && made("variable") >= 0) { }
        if (cls < 0 || model.variables == 0) return true;
        for (int n = any(1, 6); n > 0 && model.state == 0; n--) {
            int bound = random.nextInt(3) == 0 ? build(1, model.params.size(), NONE, true) : aVariable();
            int s = made("of", cls, aVariable(), 0), t = made("of", cls, made("wild", any(0, 2), bound), 0);
            boolean turned = random.nextInt(3) == 0;
            if (!call("formula", 3, turned ? t : s, turned ? s : t) || !sameCounts()) return false;
            int other = random.nextInt(3) == 0 ? made("of", cls, aVariable(), 0) : random.nextBoolean() ? aVariable() : made("array", aVariable());
            boolean same = random.nextBoolean() ? call("formula", any(0, 3), aVariable(), other) : call("formula", any(0, 3), other, aVariable());
            if (!same || !sameCounts()) return false;
        }
        for (Model.B b : model.bounds) if (model.kind(b.t()) == 2) seen[13]++;
        return call("resolve") && sameRows() && call("clear");
    }

    private boolean guidedRun() {
        tellClasses();
        if (random.nextInt(12) == 0 && !tellCaptures()) return false;
        if (random.nextInt(12) == 0 && !tellWildcards()) return false;
        if (random.nextInt(60) == 0 && !tellManyBounds()) return false;
        if (random.nextInt(60) == 0 && !tellManyFormulas()) return false;
        if (random.nextInt(3) == 0) tellChain();
        if (random.nextInt(8) == 0) fill();
        for (int round = any(1, 6); round > 0; round--) {
            for (int v = narrow ? any(1, 12) : any(0, 5); v > 0; v--) made("variable");
            for (int f = narrow ? any(1, 30) : any(1, 9); f > 0 && model.state == 0; f--) if (!tellFormula()) return false;
            for (int n = random.nextInt(4); n > 0; n--) {
                if (!call("above", aType(), aClass()) || !sameCounts()) return false;
            }
            int before = model.state;
            if (random.nextInt(5) != 0 && (!call("resolve") || !sameCounts())) return false;
            note("resolve", before);
            if (!sameRows() || random.nextInt(3) != 0 && !call("clear")) return false;
        }
        return sameRows();
    }

    private boolean run() {
        if (guided) return guidedRun();
        int telling = any(20, 90), making = telling + any(10, 120), last = any(making, CALLS);
        for (int i = 0; i < last; i++) {
            String name = next(i < telling ? 0 : i < making ? 1 : 2);
            int[] x = arguments(name);
            int stateBefore = model.state;
            if (!call(name, x) || !sameCounts()) return false;
            note(name, stateBefore);
            if (model.state != 0 && random.nextInt(4) == 0) {
                if (!sameRows() || !call("clear")) return false;
                for (int v = any(0, 4); v > 0; v--) if (!call("variable")) return false;
            }
        }
        return sameRows();
    }

    private void noteEnd() {
        boolean capture = false, capturedVariable = false;
        for (int t = 0; t < model.types.size(); t++) {
            capture |= model.kind(t) == 8;
            capturedVariable |= model.kind(t) == 8 && !model.proper(t);
        }
        if (capture) seen[8]++;
        if (capturedVariable) seen[11]++;
        for (Model.B b : model.bounds) if (model.kind(b.t()) == 8) seen[12]++;
        for (Model.B b : model.bounds) if (model.kind(b.t()) == 2) seen[13]++;
        if (model.types.size() == 500) seen[7]++;
    }

    private void note(String name, int stateBefore) {
        if (name.equals("formula") && stateBefore == 0 && model.state == 1) seen[0]++;
        if (name.equals("formula") && stateBefore == 0 && model.state == 2) seen[1]++;
        if (name.equals("resolve") && stateBefore == 0) seen[model.state == 0 ? 2 : model.state == 1 ? 3 : 4]++;
        if (name.equals("formula") && model.unchecked) seen[5]++;
        if (name.equals("formula") && stateBefore == 0 && model.inCall > 5) seen[6]++;
        if (name.equals("formula") && model.bounds.size() == 200) seen[9]++;
        if (name.equals("formula") && model.inCall == 20000) seen[10]++;
    }

    public static void main(String[] args) {
        int runs = args.length > 0 ? Integer.parseInt(args[0]) : RUNS;
        long from = args.length > 1 ? Long.parseLong(args[1]) : 1;
        for (long seed = from; seed < from + runs; seed++) {
            RandomRunsTest test = new RandomRunsTest(seed);
            boolean same = test.run();
            test.noteEnd();
            Check.that("run " + seed, same);
            if (!same) break;
        }
        System.out.println("formulas false " + seen[0] + ", full " + seen[1] + "; resolved " + seen[2] + ", false " + seen[3]
            + ", full " + seen[4] + "; unchecked " + seen[5] + "; long " + seen[6] + "; 500 types " + seen[7] + "; captures " + seen[8] + "; 200 bounds " + seen[9] + ", over 180 " + seen[16]
            + "; 20000 formulas " + seen[10] + "; captures of variables " + seen[11] + ", in bounds " + seen[12]
            + "; wildcards in bounds " + seen[13] + "; formulas too deep " + seen[14] + "; captures for parents " + seen[15]);
        Check.end();
    }
}
