import java.util.function.IntSupplier;

/**
 * The boundaries that the document names: the last that there is room for and the first that there is none for, the
 * empty and the full, numbers too small and too large, and calls that are refused, which change nothing.
 */
public final class BoundaryTest extends World {
    // never right as a number of anything, though some would be if their upper bits or their sign were lost
    private static final int[] FAR = {LOW, LOW + 1, LOW + 9, -65536, -65, -64, -9, -4, -3, -2, -1, 512, 521, 1 << 16,
        (1 << 16) + 9, 1 << 30, (1 << 30) + 9, HIGH - 1, HIGH};

    /** All that can be seen of an object without a change of it. */
    private static String seen(InferReduce x) {
        StringBuilder all = new StringBuilder();
        for (int what = 0; what < 8; what++) all.append(x.count(what)).append(' ');
        for (int t = 0; t < x.count(1); t++) for (int what = 0; what < 6; what++) all.append(x.type(t, what)).append(' ');
        for (int i = 0; i < x.count(4); i++) for (int what = 0; what < 4; what++) all.append(x.bound(i, what)).append(' ');
        for (int v = 0; v < x.count(2); v++) all.append(x.instance(v)).append(' ');
        for (int i = 0; i < x.count(3); i++) all.append(x.unchecked(i)).append(' ');
        return all.toString();
    }

    private static void refused(InferReduce x, String what, int want, IntSupplier call) {
        String before = seen(x);
        due(what, want, call.getAsInt());
        Check.that(what + ": nothing is changed", before.equals(seen(x)));
    }

    // Promise 1: "OBJECT, the boxes; no types, variables, formulas, bounds."
    private static void emptyObject() {
        InferReduce x = new InferReduce();
        nothingIn(x, "new");
        refused(x, "no type", OUTSIDE, () -> x.type(0, 0));
        refused(x, "none to make an array of", OUTSIDE, () -> x.array(0));
        refused(x, "none to go up to", OUTSIDE, () -> x.wild(1, 0));
        refused(x, "nor above", OUTSIDE, () -> x.above(0, 0));
        refused(x, "nor of a formula", OUTSIDE, () -> x.formula(SUB, 0, 0));
        refused(x, "no class to have parents", OUTSIDE, () -> x.parent(9, 0));
        refused(x, "no class with parameters", OUTSIDE, () -> x.of(9, 0, 0));
        due("resolving no variables", 0, x.resolve());
        due("clearing nothing", 0, x.clear());
        nothingIn(x, "cleared");
        due("the first type has number 0", 0, x.nothing());
        dueType(x, "the first type", 0, 6, 0, NONE, NONE, 1, 1);
        due("the first class told has number 9", 9, x.declare(0));
    }

    private static void nothingIn(InferReduce x, String what) {
        int[] counts = {9, 0, 0, 0, 0, FINE, 0, NONE};
        for (int i = 0; i < counts.length; i++) due(what + ": count " + i, counts[i], x.count(i));
        refused(x, what + ": no bound", OUTSIDE, () -> x.bound(0, 0));
        refused(x, what + ": no variable", OUTSIDE, () -> x.instance(0));
        refused(x, what + ": no formula", OUTSIDE, () -> x.unchecked(0));
        refused(x, what + ": none to judge", OUTSIDE, () -> x.judge(0));
    }

    // "OUTSIDE: a number is not as told": each number of each call, far off, whatever state the object is in
    private static void numbersFarOff() {
        World fine = world();
        fine.x.formula(SUB, fine.str, fine.a);
        farOff("fine", fine);
        World cameFalse = world();
        cameFalse.x.formula(SUB, cameFalse.sub, cameFalse.a);
        cameFalse.x.formula(SUB, cameFalse.str, cameFalse.num);
        due("state", CAME_FALSE, cameFalse.x.count(5));
        farOff("false", cameFalse);
        World full = world();
        int deep = full.a;
        for (int d = 0; d < 18; d++) deep = full.x.array(deep);
        full.x.formula(SUB, full.b, deep);
        full.x.formula(EQUAL, full.a, full.map(full.str, full.list(full.str)));
        due("state", CAME_FULL, full.x.count(5));
        farOff("full", full);
        World crowded = world();
        crowded.x.formula(SUB, crowded.str, crowded.a);
        while (crowded.x.count(0) < 39) crowded.x.declare(2);
        fill(crowded.x, 500);
        farOff("crowded", crowded);
    }

    private static void farOff(String state, World w) {
        InferReduce x = w.x;
        int seqStr = w.seq(w.str);
        for (int n : FAR) {
            String s = state + ", " + n + ": ";
            refused(x, s + "declare", OUTSIDE, () -> x.declare(n));
            refused(x, s + "parent's class", OUTSIDE, () -> x.parent(n, seqStr));
            refused(x, s + "parent", OUTSIDE, () -> x.parent(STRS, n));
            refused(x, s + "plain", OUTSIDE, () -> x.plain(n));
            refused(x, s + "of", OUTSIDE, () -> x.of(n, w.str, w.str));
            refused(x, s + "its argument", OUTSIDE, () -> x.of(LIST, n, w.str));
            refused(x, s + "its first one", OUTSIDE, () -> x.of(MAP, n, w.str));
            refused(x, s + "its second one", OUTSIDE, () -> x.of(MAP, w.str, n));
            refused(x, s + "wild", OUTSIDE, () -> x.wild(n, w.str));
            for (int sort = 1; sort < 3; sort++) refusedWild(x, s + "its bound", sort, n);
            refused(x, s + "parameter's class", OUTSIDE, () -> x.parameter(n, 0));
            refused(x, s + "parameter", OUTSIDE, () -> x.parameter(MAP, n));
            refused(x, s + "array", OUTSIDE, () -> x.array(n));
            refused(x, s + "primitive", OUTSIDE, () -> x.primitive(n));
            refused(x, s + "count", OUTSIDE, () -> x.count(n));
            refused(x, s + "above", OUTSIDE, () -> x.above(n, 0));
            refused(x, s + "above's class", OUTSIDE, () -> x.above(w.str, n));
            refused(x, s + "instance", OUTSIDE, () -> x.instance(n));
            refused(x, s + "unchecked", OUTSIDE, () -> x.unchecked(n));
            refused(x, s + "judge", OUTSIDE, () -> x.judge(n));
            refused(x, s + "formula", OUTSIDE, () -> x.formula(n, w.str, w.str));
            for (int what = 0; what < 6; what++) farOffRows(x, s, w.str, what, n);
        }
    }

    private static void refusedWild(InferReduce x, String what, int sort, int bound) {
        refused(x, what, OUTSIDE, () -> x.wild(sort, bound));
    }

    private static void farOffRows(InferReduce x, String s, int right, int k, int n) {
        refused(x, s + "type", OUTSIDE, () -> x.type(n, k));
        refused(x, s + "what of a type", OUTSIDE, () -> x.type(right, n));
        refused(x, s + "bound", OUTSIDE, () -> x.bound(n, k));
        refused(x, s + "what of a bound", OUTSIDE, () -> x.bound(0, n));
        refused(x, s + "left", OUTSIDE, () -> x.formula(k, n, right));
        refused(x, s + "right", OUTSIDE, () -> x.formula(k, right, n));
    }

    // the same, but the last number that is right, and the first that is not
    private static void lastAndNext() {
        World w = world();
        InferReduce x = w.x;
        x.formula(SUB, w.str, w.a);
        x.formula(SUB, w.a, w.object);
        int types = x.count(1), bounds = x.count(4), last = types - 1;
        due("a bound", 2, bounds);
        due("a sort", 1, x.bound(1, 0));
        refused(x, "the next bound", OUTSIDE, () -> x.bound(bounds, 0));
        due("where a bound came from", 1, x.bound(1, 3));
        refused(x, "what is next", OUTSIDE, () -> x.bound(1, 4));
        due("the last variable", NONE, x.instance(2));
        refused(x, "the next variable", OUTSIDE, () -> x.instance(3));
        due("the last formula", 0, x.unchecked(1));
        refused(x, "the next formula", OUTSIDE, () -> x.unchecked(2));
        due("the last to judge", 0, x.judge(1));
        refused(x, "the next to judge", OUTSIDE, () -> x.judge(2));
        due("the last count", NONE, x.count(7));
        refused(x, "the next count", OUTSIDE, () -> x.count(8));
        due("the last type", 7, x.type(last, 0));
        due("whether it is proper", 0, x.type(last, 5));
        refused(x, "the next type", OUTSIDE, () -> x.type(types, 0));
        refused(x, "what is next of a type", OUTSIDE, () -> x.type(last, 6));
        refused(x, "above the next type", OUTSIDE, () -> x.above(types, 0));
        due("above the last type", w.object, x.above(last, 0));
        due("as the last class", NONE, x.above(last, 15));
        refused(x, "as the next class", OUTSIDE, () -> x.above(last, 16));
        for (int sort = 0; sort < 4; sort++) nextOfFormula(x, sort, types, w.str);
        refused(x, "the next sort of formulas", OUTSIDE, () -> x.formula(4, w.str, w.str));
        refused(x, "an array of the next type", OUTSIDE, () -> x.array(types));
        refused(x, "up to the next type", OUTSIDE, () -> x.wild(1, types));
        refused(x, "the next argument", OUTSIDE, () -> x.of(LIST, types, 0));
        refused(x, "the next second argument", OUTSIDE, () -> x.of(MAP, last, types));
        refused(x, "the next sort of wildcards", OUTSIDE, () -> x.wild(3, w.str));
        refused(x, "the next parent", OUTSIDE, () -> x.parent(STRS, types));
        refused(x, "a parent of the next class", OUTSIDE, () -> x.parent(16, w.str));
        refused(x, "the next class", OUTSIDE, () -> x.plain(16));
        refused(x, "the next class with arguments", OUTSIDE, () -> x.of(16, w.str, w.str));
        refused(x, "the next class's parameter", OUTSIDE, () -> x.parameter(16, 0));
        refused(x, "one parameter too many", OUTSIDE, () -> x.declare(3));
        refused(x, "the parameter after two", OUTSIDE, () -> x.parameter(MAP, 2));
        refused(x, "the parameter after one", OUTSIDE, () -> x.parameter(LIST, 1));
        refused(x, "the parameter after none", OUTSIDE, () -> x.parameter(STR, 0));
        refused(x, "the next primitive", OUTSIDE, () -> x.primitive(8));
        due("an array of the last type", types, x.array(last));
        due("up to it", types + 1, x.wild(1, types));
        due("the last as argument", types + 2, x.of(LIST, types + 1, 0));
        due("and as the second one", types + 3, x.of(MAP, types + 2, types + 1));
        due("the last primitive", types + 4, x.primitive(7));
        due("the last class", types + 5, x.plain(x.declare(0)));
        due("is told with any of the four sorts", 2, x.formula(EQUAL, types + 5, types + 5));
    }

    private static void nextOfFormula(InferReduce x, int sort, int next, int right) {
        refused(x, "the next type on the left", OUTSIDE, () -> x.formula(sort, next, right));
        refused(x, "the next type on the right", OUTSIDE, () -> x.formula(sort, right, next));
    }

    // "TYPES have numbers 0, 1, .. as they are made; alike ones have one number; 500 at most."
    private static void fiveHundredTypes() {
        InferReduce x = new InferReduce();
        int one = x.declare(1), two = x.declare(2);
        int o = x.plain(0), variable = x.variable(), any = x.wild(0, 0), up = x.wild(1, o), parameter = x.parameter(two, 1);
        int array = x.array(o), primitive = x.primitive(2), argued = x.of(one, any, 0), pair = x.of(two, o, any);
        for (int t = 0; t < pair; t++) due("numbers as they are made", 1, x.type(t, 0) >= 0 ? 1 : 0);
        due("so many", pair + 1, x.count(1));
        fill(x, 499);
        due("the 500th", 499, x.nothing());
        due("500", 500, x.count(1));
        refused(x, "500: plain", FULL, () -> x.plain(7));
        refused(x, "500: RAW", FULL, () -> x.plain(one));
        refused(x, "500: of one", FULL, () -> x.of(one, pair, 0));
        refused(x, "500: of two", FULL, () -> x.of(two, any, any));
        refused(x, "500: wild up", FULL, () -> x.wild(1, pair));
        refused(x, "500: wild down", FULL, () -> x.wild(2, pair));
        refused(x, "500: parameter", FULL, () -> x.parameter(two, 0));
        refused(x, "500: array", FULL, () -> x.array(pair));
        refused(x, "500: primitive", FULL, () -> x.primitive(3));
        refused(x, "500: variable", FULL, () -> x.variable());
        due("an old plain one", o, x.plain(0));
        due("an old one of one", argued, x.of(one, any, 0));
        due("an old one of two", pair, x.of(two, o, any));
        due("the old any", any, x.wild(0, 7));
        due("an old up", up, x.wild(1, o));
        due("an old parameter", parameter, x.parameter(two, 1));
        due("an old array", array, x.array(o));
        due("an old primitive", primitive, x.primitive(2));
        due("null", 499, x.nothing());
        due("a formula that needs no type", 0, x.formula(SUB, argued, o));
        due("it is true", FINE, x.count(5));
        due("clear", 1, x.clear());
        due("the old variable", variable, x.variable());
        refused(x, "but no other", FULL, () -> x.variable());
        InferReduce y = new InferReduce();
        fill(y, 500);
        refused(y, "500: null", FULL, () -> y.nothing());
        refused(y, "500: any", FULL, () -> y.wild(0, 0));
        refused(y, "500: the first variable", FULL, () -> y.variable());
    }

    // "OUTSIDE .. FULL: no room; of several the first told": OUTSIDE goes first where there is no room, either
    private static void outsideBeforeFull() {
        World w = world();
        InferReduce x = w.x;
        int nothing = x.nothing(), primitive = x.primitive(1), any = w.any();
        while (x.count(0) < 40) x.declare(0);
        x.parent(STRS, w.str);
        x.parent(STRS, w.num);
        while (x.count(2) < 12) x.variable();
        fill40(x);
        refused(x, "declare", FULL, () -> x.declare(0));
        refused(x, "declare with three", OUTSIDE, () -> x.declare(3));
        refused(x, "a fourth parent", FULL, () -> x.parent(STRS, w.str));
        refused(x, "one that is none", OUTSIDE, () -> x.parent(STRS, any));
        refused(x, "plain", OUTSIDE, () -> x.plain(40));
        refused(x, "of", OUTSIDE, () -> x.of(LIST, nothing, 0));
        refused(x, "of two", OUTSIDE, () -> x.of(MAP, w.str, primitive));
        refused(x, "wild", OUTSIDE, () -> x.wild(2, any));
        refused(x, "parameter", OUTSIDE, () -> x.parameter(LIST, 1));
        refused(x, "array", OUTSIDE, () -> x.array(any));
        refused(x, "primitive", OUTSIDE, () -> x.primitive(8));
        refused(x, "above", OUTSIDE, () -> x.above(any, SEQ));
        refused(x, "variable", FULL, () -> x.variable());
    }

    /** 500 types without a class more. */
    private static void fill40(InferReduce x) {
        for (int t = 0; t < x.count(1) && x.count(1) < 500; t++) x.array(t);
        for (int t = 0; t < x.count(1) && x.count(1) < 500; t++) x.wild(1, t);
        due("500", 500, x.count(1));
    }

    // "DEPTH: 1, and for each type within another one 1 more; no type is deeper than 20."
    private static void twentyDeep() {
        World w = world();
        InferReduce x = w.x;
        int array = w.str, list = w.str, left = w.str, right = w.str, wild = w.str;
        for (int d = 2; d <= 20; d++) {
            array = x.array(array);
            list = w.list(list);
            left = w.map(left, w.str);
            right = w.map(w.str, right);
            wild = d % 2 == 0 ? w.upTo(wild) : w.seq(wild);
            int[] all = {array, list, left, right, wild};
            for (int t : all) due("so deep", d, x.type(t, 4));
        }
        due("a wildcard that is 20 deep", 2, x.type(wild, 0));
        int a20 = array, l20 = list, f20 = left, r20 = right, w20 = wild;
        refused(x, "an array of 20", FULL, () -> x.array(a20));
        refused(x, "a list of 20", FULL, () -> w.list(l20));
        refused(x, "20 on the left", FULL, () -> w.map(f20, w.str));
        refused(x, "20 on the right", FULL, () -> w.map(w.str, r20));
        refused(x, "20 on both sides", FULL, () -> w.map(r20, f20));
        refused(x, "a wildcard 20 deep", FULL, () -> w.seq(w20));
        refused(x, "up to 20", FULL, () -> w.upTo(a20));
        refused(x, "down to 20", FULL, () -> w.downTo(l20));
        due("any is 1 deep", 1, x.type(w.any(), 4));
        due("though there is room for it, it is no type", x.count(1), w.map(w.any(), w.any()));
    }

    // the same of captures, and of what is above
    private static void twentyDeepAbove() {
        World w = world();
        InferReduce x = w.x;
        int[] deep = new int[21];
        deep[1] = w.num;
        for (int d = 2; d <= 18; d++) deep[d] = x.array(deep[d - 1]);
        int fits = w.list(w.upTo(deep[16])), over = w.list(w.upTo(deep[17])), far = w.list(w.upTo(deep[18]));
        due("18 deep", 18, x.type(fits, 4));
        due("20 deep", 20, x.type(far, 4));
        int above = x.above(fits, SEQ);
        due("its capture is 19 deep", 19, x.type(x.type(above, 2), 4));
        due("20 deep above it", 20, x.type(above, 4));
        int before = x.count(1);
        due("no room above 19 deep", FULL, x.above(over, SEQ));
        due("the capture stays", before + 1, x.count(1));
        dueType(x, "the capture", before, 8, over, 0, NONE, 20, 1);
        refused(x, "no room for a capture of 20 deep", FULL, () -> x.above(far, SEQ));
        due("itself needs no room", far, x.above(far, LIST));
        due("OBJECT neither", w.object, x.above(far, 0));
    }

    // the same of a type in which a variable's type is put
    private static void twentyDeepPut() {
        for (int d = 17; d <= 19; d++) {
            World w = world();
            InferReduce x = w.x;
            int deep = w.str;
            for (int n = 1; n < d; n++) deep = x.array(deep);
            x.formula(SUB, w.list(w.seq(w.b)), w.c);
            x.formula(EQUAL, w.b, deep);
            due("2 and " + d, d + 2 <= 20 ? FINE : CAME_FULL, x.count(5));
            due("bounds", d + 2 <= 20 ? 3 : 2, x.count(4));
            due("the formula of the state", d + 2 <= 20 ? NONE : 1, x.count(7));
            due("judge", d + 2 <= 20 ? 0 : FULL, x.judge(0));
        }
    }

    /** A type 20 deep around another one that is 1 deep: arrays, classes on the left, on the right, wildcards. */
    private static int around(World w, int way, int inner) {
        int t = inner;
        for (int d = 2; d <= 20; d++) {
            switch (way) {
                case 0: t = w.x.array(t); break;
                case 1: t = w.list(t); break;
                case 2: t = w.map(t, w.str); break;
                case 3: t = w.map(w.str, t); break;
                default: t = w.x.type(t, 0) != 2 && d < 20 ? w.upTo(t) : w.seq(t); break;
            }
        }
        due("20 deep", 20, w.x.type(t, 4));
        return t;
    }

    // a variable at the last place that a type has: what is 1 deep fits there, what is 2 deep does not
    private static void twentyDeepLast() {
        for (int way = 0; way < 5; way++) {
            World w = world();
            InferReduce x = w.x;
            int deep = around(w, way, w.a), due = around(w, way, w.num), before = x.count(1);
            x.formula(SUB, deep, w.b);
            x.formula(EQUAL, w.a, w.num);
            w.dueCounts("1 deep in place", 3, FINE, 3, NONE);
            w.dueBound("1 deep in place", 2, ABOVE, 1, due, 1);
            x.formula(EQUAL, w.b, due);
            due("judged with it", 1, x.judge(0));
            due("no type is made", before, x.count(1));
            w.renew();
            x.formula(SUB, deep, w.b);
            x.formula(EQUAL, w.a, x.array(w.num));
            due("2 deep in place", CAME_FULL, x.count(5));
            due("nor judged", FULL, x.judge(0));
        }
    }

    // the same of a parameter in a parent
    private static void twentyDeepParent() {
        for (int way = 0; way < 4; way++) {
            World w = world();
            InferReduce x = w.x;
            int cls = x.declare(1), parent = way == 0 ? NONE : around(w, way, x.parameter(cls, 0));
            if (way == 0) {
                int t = x.parameter(cls, 0);
                for (int d = 2; d <= 19; d++) t = x.array(t);
                parent = w.seq(t);
            }
            due("a parent that is 20 deep", 1, x.parent(cls, parent));
            int above = x.above(x.of(cls, w.num, 0), x.type(parent, 1));
            due("above it, 20 deep", 20, x.type(above, 4));
            if (way > 0) due("with the argument in place", around(w, way, w.num), above);
            int two = x.of(cls, x.array(w.num), 0);
            due("2 deep has no room there", FULL, x.above(two, x.type(parent, 1)));
        }
    }

    // "CLASSES 0 .. 39 (at most), with 0 to 2 PARAMETERS"; "FULL (40 classes)"
    private static void fortyClasses() {
        InferReduce x = new InferReduce();
        for (int c = 9; c < 39; c++) due("class", c, x.declare(0));
        due("the 40th", 39, x.declare(1));
        for (int n = 0; n < 3; n++) refusedClass(x, n);
        int p = x.parameter(39, 0), plain = x.plain(38);
        due("its parameter", 3, x.type(p, 0));
        due("its parents", 1, x.parent(39, plain));
        int t = x.of(39, p, 0);
        due("its type", 39, x.type(t, 1));
        due("above it", plain, x.above(t, 38));
        due("above it, RAW", plain, x.above(x.plain(39), 38));
        due("itself", t, x.above(t, 39));
        due("not above another", NONE, x.above(plain, 39));
        refused(x, "no 41st", OUTSIDE, () -> x.plain(40));
        refused(x, "to be above", OUTSIDE, () -> x.above(t, 40));
        due("told", 0, x.formula(SUB, t, plain));
        due("true", FINE, x.count(5));
    }

    private static void refusedClass(InferReduce x, int parameters) {
        refused(x, "the 41st with " + parameters, FULL, () -> x.declare(parameters));
    }

    // Promise 3: "FULL: three."
    private static void threeParents() {
        InferReduce x = new InferReduce();
        for (int i = 0; i < 5; i++) x.declare(0);
        for (int n = 1; n <= 3; n++) due("parents", n, x.parent(13, x.plain(8 + n)));
        int fourth = x.plain(12), t = x.plain(13);
        refused(x, "a fourth", FULL, () -> x.parent(13, fourth));
        due("it is not above", NONE, x.above(t, 12));
        for (int n = 1; n <= 3; n++) due("these are", x.plain(8 + n), x.above(t, 8 + n));
        due("another class has room", 1, x.parent(12, x.plain(9)));
        due("one parent twice", 2, x.parent(12, x.plain(9)));
        due("thrice", 3, x.parent(12, x.plain(9)));
        refused(x, "no more often", FULL, () -> x.parent(12, x.plain(9)));
    }

    // "VARIABLE (0 .. 11)"; Promise 11: "FULL: there are 12, or the types."
    private static void twelveVariables() {
        InferReduce x = new InferReduce();
        for (int v = 0; v < 12; v++) due("its type", v, x.variable());
        refused(x, "a 13th", FULL, () -> x.variable());
        for (int v = 0; v < 12; v++) due("no bound", NONE, x.instance(v));
        refused(x, "no variable 12", OUTSIDE, () -> x.instance(12));
        due("the last one has bounds, too", 0, x.formula(EQUAL, 11, x.plain(0)));
        due("it is settled", x.plain(0), x.instance(11));
        due("all are", 12, x.resolve());
        due("clear", 1, x.clear());
        refused(x, "none is there", OUTSIDE, () -> x.instance(0));
        for (int v = 0; v < 12; v++) {
            int type = v;
            refused(x, "not there yet", OUTSIDE, () -> x.formula(SUB, type, type));
            due("its old type", v, x.variable());
            due("is there again", v, x.formula(SUB, type, type));
        }
        refused(x, "a 13th again", FULL, () -> x.variable());
    }

    /** Tells that variables are above types, four bounds a formula, till there are so many bounds. */
    private static void tellBounds(InferReduce x, int most) {
        int two = x.declare(2), t = x.plain(0);
        int[] quads = new int[3];
        for (int q = 0; q < 3; q++) {
            int[] up = new int[4];
            for (int i = 0; i < 4; i++) up[i] = x.wild(1, x.variable());
            quads[q] = x.of(two, x.wild(1, x.of(two, up[0], up[1])), x.wild(1, x.of(two, up[2], up[3])));
        }
        for (int k = 0; x.count(4) + 4 <= most; k++) {
            int pair = x.of(two, t, t);
            for (int q = 0; q < 3 && x.count(4) + 4 <= most; q++) x.formula(SUB, x.of(two, pair, pair), quads[q]);
            t = x.array(t);
        }
        for (int v = 0; x.count(4) < most; v++) x.formula(SUB, t, variableType(x, v));
        due("so many bounds", most, x.count(4));
        due("that is fine", FINE, x.count(5));
    }

    private static int variableType(InferReduce x, int v) {
        for (int t = 0; t < x.count(1); t++) if (x.type(t, 0) == 7 && x.type(t, 1) == v) return t;
        return NONE;
    }

    // "Alike ones come once; .. 200 at most."
    private static void twoHundredBounds() {
        InferReduce x = new InferReduce();
        tellBounds(x, 200);
        int a = variableType(x, 0), b = variableType(x, 1), old = x.bound(0, 2), told = x.count(3);
        due("an old bound needs no room", told, x.formula(SUB, old, a));
        due("fine", FINE, x.count(5));
        due("200", 200, x.count(4));
        due("of the same there comes none", told + 1, x.formula(SUB, b, b));
        due("fine still", FINE, x.count(5));
        due("one too many", told + 2, x.formula(SUB, x.plain(5), a));
        due("full", CAME_FULL, x.count(5));
        due("at this one", told + 2, x.count(7));
        due("200 stay", 200, x.count(4));
        refused(x, "no more formulas", NONE, () -> x.formula(SUB, old, a));
        refused(x, "no resolving", NONE, () -> x.resolve());
        due("clear", told + 3, x.clear());
        due("no bounds", 0, x.count(4));
        InferReduce y = new InferReduce();
        tellBounds(y, 199);
        int c = variableType(y, 2), d = variableType(y, 3);
        y.formula(SUB, c, d);
        due("room for one of two", CAME_FULL, y.count(5));
        due("200", 200, y.count(4));
        due("the first of them: its sort", BELOW, y.bound(199, 0));
        due("its variable", 2, y.bound(199, 1));
        due("its type", d, y.bound(199, 2));
    }

    // the same in resolving, where each variable needs one
    private static void twoHundredResolved() {
        InferReduce x = new InferReduce();
        tellBounds(x, 188);
        due("188 and 12", 12, x.resolve());
        due("200", 200, x.count(4));
        due("fine", FINE, x.count(5));
        due("resolved again", 12, x.resolve());
        InferReduce y = new InferReduce();
        tellBounds(y, 189);
        due("189 and 12", NONE, y.resolve());
        due("full", CAME_FULL, y.count(5));
        due("as it was resolved", NONE, y.count(7));
        due("200 stay", 200, y.count(4));
        due("those before the last are settled", y.plain(0), y.instance(10));
        due("the last one is not", NONE, y.instance(11));
        refused(y, "no resolving", NONE, () -> y.resolve());
    }

    // Promise 12: "NONE: the state was not 0, or there are 60."
    private static void sixtyFormulas() {
        World w = world();
        InferReduce x = w.x;
        for (int i = 0; i < 60; i++) due("told", i, x.formula(i % 4, w.str, w.str));
        for (int sort = 0; sort < 4; sort++) oneTooMany(x, sort, w.str, w.a);
        due("the last one is judged", 1, x.judge(59));
        due("resolving needs none", 3, x.resolve());
        due("clear", 60, x.clear());
        due("told anew", 0, x.formula(SUB, w.str, w.str));
        InferReduce y = new InferReduce();
        int o = y.plain(0), array = y.array(o);
        for (int i = 0; i < 59; i++) y.formula(SUB, o, o);
        due("the 60th may be false", 59, y.formula(SUB, o, array));
        due("false", CAME_FALSE, y.count(5));
        due("at the 60th", 59, y.count(7));
        refused(y, "no more", NONE, () -> y.formula(SUB, o, o));
    }

    private static void oneTooMany(InferReduce x, int sort, int s, int t) {
        refused(x, "the 61st", NONE, () -> x.formula(sort, s, s));
        refused(x, "the 61st, of which a bound would come", NONE, () -> x.formula(sort, s, t));
        refused(x, "OUTSIDE goes first", OUTSIDE, () -> x.formula(sort, s, -1));
    }

    /** A type of two classes that, made less with another such one, is so many formulas. */
    private static int tree(InferReduce x, int one, int two, int leaf, int formulas) {
        if (formulas == 1) return leaf;
        if (formulas == 2) return x.of(one, leaf, 0);
        int whole = leaf, size = 1;
        while (2 * size + 1 <= formulas - 2) {
            whole = x.of(two, whole, whole);
            size = 2 * size + 1;
        }
        return x.of(two, whole, tree(x, one, two, leaf, formulas - 1 - size));
    }

    // "more than 20000 would be made less in one call (that one too many is not made, nor counted)"
    private static void twentyThousandTold() {
        int[] sizes = {19999, 20000, 20001, 30000};
        for (int size : sizes) {
            InferReduce x = new InferReduce();
            int one = x.declare(1), two = x.declare(2), a = x.variable(), b = x.variable();
            int s = tree(x, one, two, a, size), t = tree(x, one, two, b, size);
            due("told", 0, x.formula(EQUAL, s, t));
            due(size + ": state", size <= 20000 ? FINE : CAME_FULL, x.count(5));
            due(size + ": counted", Math.min(size, 20000), x.count(6));
            due(size + ": at", size <= 20000 ? NONE : 0, x.count(7));
            due(size + ": what came stays", 2, x.count(4));
            due("a variable is left", 0, x.judge(0));
            due("judging is not counted", Math.min(size, 20000), x.count(6));
            due("another call has its own", size <= 20000 ? 1 : NONE, x.formula(EQUAL, s, t));
            due("both are counted", size <= 20000 ? 2 * size : 20000, x.count(6));
            due("clear", size <= 20000 ? 2 : 1, x.clear());
            due("none are counted", 0, x.count(6));
        }
    }

    // the same, with those that come of holding: a IS Str stands before; a IS b and b IS a come to four formulas more
    private static void twentyThousandHeld() {
        for (int size = 19995; size <= 20000; size++) {
            InferReduce x = new InferReduce();
            int one = x.declare(1), two = x.declare(2), a = x.variable(), b = x.variable(), str = x.plain(x.declare(0));
            x.formula(EQUAL, a, str);
            x.formula(EQUAL, tree(x, one, two, a, size), tree(x, one, two, b, size));
            due(size + " and 4: state", size + 4 <= 20000 ? FINE : CAME_FULL, x.count(5));
            due(size + " and 4: counted", 1 + Math.min(size + 4, 20000), x.count(6));
            due(size + " and 4: at", size + 4 <= 20000 ? NONE : 1, x.count(7));
            due(size + " and 4: bounds", size < 20000 ? 4 : 3, x.count(4));
        }
    }

    /** Trees of 2045 formulas: of one class under two others, and two that it is not SUB of by their last leaves alone. */
    private static int[] dearTrees(InferReduce x, int two) {
        int low = x.declare(0), first = x.declare(0), second = x.declare(0), last = x.declare(0), under = x.declare(0);
        x.parent(under, x.plain(low));
        x.parent(under, x.plain(first));
        x.parent(under, x.plain(second));
        int[] leaves = {x.plain(under), x.plain(first), x.plain(second)}, trees = new int[3];
        for (int i = 0; i < 3; i++) {
            int whole = leaves[i], odd = i == 0 ? leaves[0] : x.plain(last);
            for (int d = 0; d < 9; d++) {
                int up = x.wild(1, whole);
                odd = x.of(two, up, x.wild(1, odd));
                whole = x.of(two, up, up);
            }
            trees[i] = odd;
        }
        return trees;
    }

    // the same in resolving: all that is chosen for in one call
    private static void twentyThousandResolved() {
        int[] made = new int[13];
        for (int n = 1; n <= 12; n++) {
            InferReduce x = new InferReduce();
            int two = x.declare(2);
            int[] trees = dearTrees(x, two), v = new int[n];
            for (int i = 0; i < n; i++) {
                v[i] = x.variable();
                for (int t : trees) x.formula(SUB, t, v[i]);
            }
            int before = x.count(6), answer = x.resolve();
            made[n] = x.count(6) - before;
            boolean fits = n * made[1] <= 20000;
            due(n + " resolved", fits ? n : NONE, answer);
            due(n + ": state", fits ? FINE : CAME_FULL, x.count(5));
            due(n + ": counted", fits ? n * made[1] : 20000, made[n]);
            due(n + ": at", NONE, x.count(7));
            due(n + ": the first is settled", x.of(two, x.wild(0, 0), x.wild(0, 0)), x.instance(0));
            if (!fits) due(n + ": the last is not", NONE, x.instance(n - 1));
        }
        due("one is dear", 1, made[1] > 4000 && made[1] < 5000 ? 1 : 0);
    }

    // "In 1 and 2 formula() and resolve() are NONE till clear(); what was made till then stays."
    private static void refusedTillClear() {
        for (int state = CAME_FALSE; state <= CAME_FULL; state++) {
            World w = world();
            InferReduce x = w.x;
            int deep = w.b, str = w.str;
            for (int d = 0; d < 18; d++) deep = x.array(deep);
            x.formula(COMPATIBLE, x.plain(LIST), w.list(w.a));
            x.formula(SUB, w.c, deep);
            if (state == CAME_FALSE) x.formula(SUB, w.map(w.b, w.str), w.map(w.str, w.num));
            else x.formula(EQUAL, w.b, w.list(w.list(w.str)));
            due("the state", state, x.count(5));
            for (int sort = 0; sort < 4; sort++) refusedFormulas(x, sort, w);
            refused(x, "no resolving", NONE, () -> x.resolve());
            due("its formula", 2, x.count(7));
            due("all were told", 3, x.count(3));
            due("what came of them stays", 2, x.count(4));
            due("even the last", state == CAME_FALSE ? str : w.list(w.list(w.str)), x.instance(1));
            due("types are made", x.count(1), w.map(w.num, w.num));
            due("variables too", 4, x.type(x.variable(), 1) + 1);
            due("classes too", 16, x.declare(1));
            due("parents too", 1, x.parent(16, w.str));
            due("above", w.seq(w.num), x.above(w.map(w.num, w.num), SEQ));
            due("judged", 0, x.judge(0));
            due("unchecked", 1, x.unchecked(0));
            due("none of it is a way out", state, x.count(5));
            int types = x.count(1);
            due("clear", 3, x.clear());
            int[] counts = {17, types, 0, 0, 0, FINE, 0, NONE};
            for (int i = 0; i < counts.length; i++) due("cleared: count " + i, counts[i], x.count(i));
            due("resolving nothing", 0, x.resolve());
            due("told anew", 0, x.formula(SUB, w.sub, w.str));
            due("fine", FINE, x.count(5));
            due("not unchecked", 0, x.unchecked(0));
            due("once more", 1, x.clear());
            due("and nothing", 0, x.clear());
        }
    }

    private static void refusedFormulas(InferReduce x, int sort, World w) {
        refused(x, "a true one", NONE, () -> x.formula(sort, w.str, w.str));
        refused(x, "one with a bound", NONE, () -> x.formula(sort, w.a, w.str));
        refused(x, "OUTSIDE goes first", OUTSIDE, () -> x.formula(sort, w.a, x.count(1)));
        int any = w.any();
        if (sort != CONTAINED) refused(x, "a wildcard, too", OUTSIDE, () -> x.formula(sort, w.str, any));
    }

    // Promise 12: "one with a variable that is not there any more"
    private static void variablesGone() {
        World w = world();
        InferReduce x = w.x;
        int capture = x.type(x.above(w.list(w.upTo(w.c)), SEQ), 2);
        int[] with = {w.c, w.list(w.c), w.map(w.str, w.c), w.map(w.c, w.a), x.array(x.array(w.c)), w.seq(w.downTo(w.c)), capture, w.list(capture)};
        for (int t : with) {
            for (int sort = 0; sort < 4; sort++) {
                x.clear();
                x.variable();
                x.variable();
                gone(x, sort, t, w.str);
                x.variable();
                due("it is there again", 0, x.formula(sort, t, t));
            }
        }
        due("clear", 1, x.clear());
        int wild = w.upTo(w.c);
        gone(x, CONTAINED, wild, w.str);
        gone(x, SUB, w.a, w.str);
        due("types of it are made all the same", x.count(1), w.map(w.c, w.c));
        due("and looked at", 0, x.type(w.c, 5));
        due("and are above", w.seq(w.c), x.above(w.list(w.c), SEQ));
    }

    private static void gone(InferReduce x, int sort, int t, int str) {
        refused(x, "gone on the left", OUTSIDE, () -> x.formula(sort, t, str));
        refused(x, "gone on the right", OUTSIDE, () -> x.formula(sort, str, t));
        refused(x, "gone on both sides", OUTSIDE, () -> x.formula(sort, t, t));
    }

    // Promise 5, 6, 8: "an argument that can't be"; "a bound that is a wildcard, a primitive, null"; "a wildcard, null"
    private static void typesThatCannotBe() {
        World w = world();
        InferReduce x = w.x;
        int nothing = x.nothing(), capture = x.type(x.above(w.list(w.any()), SEQ), 2);
        int[] wildcards = {w.any(), w.upTo(w.str), w.downTo(w.a)}, primitives = new int[8];
        for (int k = 0; k < 8; k++) primitives[k] = x.primitive(k);
        for (int p : primitives) {
            cannotBeIn(w, p);
            due("an array of it", 4, x.type(x.array(p), 0));
            due("and of that", 1, x.type(w.list(x.array(p)), 0));
            due("and up to that", 2, x.type(w.upTo(x.array(p)), 0));
        }
        cannotBeIn(w, nothing);
        refused(x, "an array of null", OUTSIDE, () -> x.array(nothing));
        for (int t : wildcards) {
            refused(x, "an array of a wildcard", OUTSIDE, () -> x.array(t));
            refused(x, "up to a wildcard", OUTSIDE, () -> x.wild(1, t));
            refused(x, "down to a wildcard", OUTSIDE, () -> x.wild(2, t));
            refused(x, "above a wildcard", OUTSIDE, () -> x.above(t, 0));
            due("as an argument", t, x.type(w.list(t), 2));
        }
        int[] others = {w.object, x.plain(LIST), w.list(w.str), x.parameter(MAP, 0), x.array(w.str), w.a, capture};
        for (int t : others) {
            due("as an argument", t, x.type(w.list(t), 2));
            due("as the first one", t, x.type(w.map(t, w.str), 2));
            due("as the second one", t, x.type(w.map(w.str, t), 3));
            due("up to it", t, x.type(w.upTo(t), 2));
            due("down to it", t, x.type(w.downTo(t), 2));
            due("an array of it", t, x.type(x.array(t), 1));
        }
        refused(x, "a class without parameters", OUTSIDE, () -> x.of(STR, w.str, w.str));
        refused(x, "a box", OUTSIDE, () -> x.of(5, w.str, w.str));
        refused(x, "OBJECT", OUTSIDE, () -> x.of(0, w.str, w.str));
        due("b is not looked at", w.list(w.str), x.of(LIST, w.str, nothing));
        due("nor is a bound", w.any(), x.wild(0, nothing));
    }

    private static void cannotBeIn(World w, int t) {
        InferReduce x = w.x;
        refused(x, "as an argument", OUTSIDE, () -> x.of(LIST, t, 0));
        refused(x, "as the first one", OUTSIDE, () -> x.of(MAP, t, w.str));
        refused(x, "as the second one", OUTSIDE, () -> x.of(MAP, w.str, t));
        refused(x, "up to it", OUTSIDE, () -> x.wild(1, t));
        refused(x, "down to it", OUTSIDE, () -> x.wild(2, t));
    }

    // Promise 21: "FULL: a type has no room": on either side, and of what is above
    private static void judgedFull() {
        for (int room = 0; room < 3; room++) {
            InferReduce x = new InferReduce();
            int g = x.declare(1), h = x.declare(1), a = x.variable(), o = x.plain(0), six = x.plain(6);
            x.parent(h, x.of(g, x.parameter(h, 0), 0));
            due("told", 0, x.formula(SUB, x.nothing(), x.of(g, a, 0)));
            due("told", 1, x.formula(SUB, x.of(h, a, 0), o));
            due("told", 2, x.formula(EQUAL, a, six));
            fill(x, 500 - room);
            String before = seen(x);
            due("on the right, room for " + room, room < 1 ? FULL : 1, x.judge(0));
            due("on the left, room for " + room, room < 2 ? FULL : 1, x.judge(1));
            if (room == 0) Check.that("nothing is changed", before.equals(seen(x)));
            due("the state stays", FINE, x.count(5));
            due("what needs none", 1, x.judge(2));
        }
        InferReduce y = new InferReduce();
        int g = y.declare(1), h = y.declare(1), six = y.plain(6);
        y.parent(h, y.of(g, y.of(g, y.parameter(h, 0), 0), 0));
        int s = y.of(h, six, 0), t = y.of(g, y.of(g, six, 0), 0), u = y.of(h, t, 0);
        due("told", 0, y.formula(SUB, s, t));
        due("told while there is room", 1, y.formula(COMPATIBLE, u, y.of(g, y.wild(0, 0), 0)));
        fill(y, 500);
        due("what was made for it stays, and is used again", 1, y.judge(1));
        due("so here", 1, y.judge(0));
    }

    // the same where its formulas are too many: each class here comes to two formulas of the class before it
    private static void judgedTooMany() {
        InferReduce x = new InferReduce();
        int n = x.declare(2), object = x.plain(0), leaf = x.of(n, object, object);
        int[] types = new int[14], within = new int[14];
        for (int k = 0; k < 14; k++) {
            int cls = x.declare(0);
            types[k] = x.plain(cls);
            within[k] = x.of(n, x.wild(2, types[k]), x.wild(2, types[k]));
            due("its parent", 1, x.parent(cls, k < 2 ? leaf : x.of(n, within[k - 2], within[k - 2])));
        }
        int made = 0;
        for (int k = 1; k < 14; k++) {
            int size = (4 << k) - 3;
            due("told", k - 1, x.formula(SUB, types[k], within[k - 1]));
            made += Math.min(size, 20000);
            due(size + ": state", size <= 20000 ? FINE : CAME_FULL, x.count(5));
            due(size + ": counted", made, x.count(6));
            String before = seen(x);
            due(size + ": judged", size <= 20000 ? 1 : FULL, x.judge(k - 1));
            Check.that("nothing is changed", before.equals(seen(x)));
        }
        due("the last one was too much", CAME_FULL, x.count(5));
        due("the one before it is judged still", 1, x.judge(11));
    }

    public static void main(String[] args) {
        emptyObject();
        numbersFarOff();
        lastAndNext();
        fiveHundredTypes();
        outsideBeforeFull();
        twentyDeep();
        twentyDeepAbove();
        twentyDeepPut();
        twentyDeepLast();
        twentyDeepParent();
        fortyClasses();
        threeParents();
        twelveVariables();
        twoHundredBounds();
        twoHundredResolved();
        sixtyFormulas();
        twentyThousandTold();
        twentyThousandHeld();
        twentyThousandResolved();
        refusedTillClear();
        variablesGone();
        typesThatCannotBe();
        judgedFull();
        judgedTooMany();
        Check.end();
    }
}
