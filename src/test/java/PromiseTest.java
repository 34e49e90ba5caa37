/** Each promise by itself: ordinary inputs, the edges that the document names, wrong inputs. */
public final class PromiseTest extends World {
    private static void promise1() {
        InferReduce x = new InferReduce();
        int[] counts = {9, 0, 0, 0, 0, 0, 0, NONE};
        for (int i = 0; i < counts.length; i++) due("new: count " + i, counts[i], x.count(i));
        for (int c = 0; c < 9; c++) {
            due("new: class " + c + " has no parameter", OUTSIDE, x.parameter(c, 0));
            due("new: class " + c, c, x.plain(c));
        }
        due("new: no class 9", OUTSIDE, x.plain(9));
        due("NONE", -1, InferReduce.NONE);
        due("OUTSIDE", -2, InferReduce.OUTSIDE);
        due("FULL", -3, InferReduce.FULL);
        InferReduce y = new InferReduce();
        due("objects are apart", 0, y.count(1));
    }

    private static void promise2() {
        InferReduce x = new InferReduce();
        int[] wrong = {-1, 3, LOW, HIGH};
        for (int w : wrong) due("declare " + w, OUTSIDE, x.declare(w));
        for (int i = 9; i < 40; i++) due("declare", i, x.declare(i % 3));
        due("declare the 41st", FULL, x.declare(0));
        due("declare: OUTSIDE is told first", OUTSIDE, x.declare(3));
        due("40 classes", 40, x.count(0));
        due("none with no parameters", OUTSIDE, x.parameter(39, 0));
        due("a second parameter", 0, x.parameter(38, 1));
        due("no third one", OUTSIDE, x.parameter(38, 2));
    }

    private static void promise3() {
        InferReduce x = new InferReduce();
        int g = x.declare(1), h = x.declare(1), plain = x.declare(0), late = x.declare(0);
        int own = x.parameter(h, 0), foreign = x.parameter(g, 0), lateType = x.plain(late);
        int good = x.of(g, own, 0), any = x.wild(0, 0), variable = x.variable();
        int[] noClass = {LOW, -1, 0, 1, 8, 15, HIGH};
        for (int n : noClass) due("parent of " + n, OUTSIDE, x.parent(n, good));
        due("a type that is none", OUTSIDE, x.parent(h, x.count(1)));
        due("a type below 0", OUTSIDE, x.parent(h, -1));
        due("OBJECT", OUTSIDE, x.parent(h, x.plain(0)));
        due("a RAW type", OUTSIDE, x.parent(h, x.plain(g)));
        due("itself", OUTSIDE, x.parent(h, x.of(h, own, 0)));
        due("a later class", OUTSIDE, x.parent(plain, lateType));
        due("a wildcard as argument", OUTSIDE, x.parent(h, x.of(g, any, 0)));
        due("a foreign parameter", OUTSIDE, x.parent(h, x.of(g, foreign, 0)));
        due("a foreign parameter within", OUTSIDE, x.parent(h, x.of(g, x.array(foreign), 0)));
        due("a variable within", OUTSIDE, x.parent(h, x.of(g, variable, 0)));
        due("a parameter", OUTSIDE, x.parent(h, own));
        due("an array", OUTSIDE, x.parent(h, x.array(lateType)));
        due("a wildcard", OUTSIDE, x.parent(h, any));
        due("a primitive", OUTSIDE, x.parent(h, x.primitive(4)));
        due("null", OUTSIDE, x.parent(h, x.nothing()));
        due("a variable", OUTSIDE, x.parent(h, variable));
        due("a box has no parents", OUTSIDE, x.parent(8, x.plain(1)));
        due("the first declared class may have some", 1, x.parent(g, x.plain(8)));
        int pair = x.declare(2), under = x.declare(2), k = x.parameter(under, 0), v = x.parameter(under, 1);
        due("a wildcard as second argument", OUTSIDE, x.parent(under, x.of(pair, k, any)));
        due("a foreign parameter as first argument", OUTSIDE, x.parent(under, x.of(pair, own, v)));
        due("a foreign parameter as second argument", OUTSIDE, x.parent(under, x.of(pair, k, own)));
        due("both its own", 1, x.parent(under, x.of(pair, v, k)));
        due("the first parent", 1, x.parent(h, good));
        due("a wildcard deeper within", 2, x.parent(h, x.of(g, x.of(g, any, 0), 0)));
        due("a box", 3, x.parent(h, x.plain(5)));
        due("the fourth", FULL, x.parent(h, good));
        due("OUTSIDE is told first", OUTSIDE, x.parent(h, any));
        due("an argument of a class before it", 1, x.parent(plain, x.of(g, x.of(h, x.plain(0), 0), 0)));
        due("of another class the count is its own", 1, x.parent(late, x.plain(plain)));
        due("what came first counts", x.of(g, lateType, 0), x.above(x.of(h, lateType, 0), g));
        due("the box is above", x.plain(5), x.above(x.of(h, lateType, 0), 5));
        due("above through two", x.of(g, x.of(h, x.plain(0), 0), 0), x.above(lateType, g));
        parentsOfClassesBefore();
        parentsWithCaptures();
    }

    /** All classes in a parent were told before, however deep they are within it. */
    private static void parentsOfClassesBefore() {
        InferReduce x = new InferReduce();
        int g = x.declare(1), pair = x.declare(2), before = x.declare(0), cls = x.declare(1), late = x.declare(1), last = x.declare(0);
        int o = x.plain(0), own = x.parameter(cls, 0), first = x.plain(before), self = x.of(cls, own, 0);
        int[] notBefore = {x.plain(last), x.plain(late), x.plain(cls), self, x.of(late, o, 0), x.of(late, own, 0)};
        for (int t : notBefore) {
            due("as the parent: " + t, OUTSIDE, x.parent(cls, t));
            due("as argument: " + t, OUTSIDE, x.parent(cls, x.of(g, t, 0)));
            due("as first argument: " + t, OUTSIDE, x.parent(cls, x.of(pair, t, first)));
            due("as second argument: " + t, OUTSIDE, x.parent(cls, x.of(pair, first, t)));
            due("in an array: " + t, OUTSIDE, x.parent(cls, x.of(g, x.array(x.array(t)), 0)));
            due("deeper: " + t, OUTSIDE, x.parent(cls, x.of(pair, own, x.of(g, x.of(pair, t, own), 0))));
            due("a wildcard up to it: " + t, OUTSIDE, x.parent(cls, x.of(g, x.of(g, x.wild(1, t), 0), 0)));
            due("a wildcard down to it: " + t, OUTSIDE, x.parent(cls, x.of(g, x.of(g, x.wild(2, t), 0), 0)));
        }
        due("no parent came", NONE, x.above(x.plain(cls), g));
        due("nor another", NONE, x.above(x.plain(cls), pair));
        due("the class before it, a box, OBJECT", 1, x.parent(cls, x.of(pair, x.of(pair, first, x.plain(8)), x.array(o))));
        due("its own parameter, which has its number", 2, x.parent(cls, x.of(g, x.of(pair, own, x.array(own)), 0)));
        due("RAW, but as an argument", 3, x.parent(cls, x.of(g, x.plain(pair), 0)));
        due("a full one still tells OUTSIDE first", OUTSIDE, x.parent(cls, x.of(g, x.plain(last), 0)));
        due("full", FULL, x.parent(cls, x.of(g, first, 0)));
        due("what is late for one is before for another", 1, x.parent(last, x.of(g, x.of(late, x.of(cls, o, 0), 0), 0)));
    }

    /** A capture is no class that was told before, nor a parameter of the class, however deep it is within. */
    private static void parentsWithCaptures() {
        InferReduce x = new InferReduce();
        int g = x.declare(1), pair = x.declare(2), h = x.declare(2), cls = x.declare(1), late = x.declare(1);
        int o = x.plain(0), own = x.parameter(cls, 0), any = x.wild(0, 0);
        due("h under pair", 1, x.parent(h, x.of(pair, x.parameter(h, 1), x.parameter(h, 0))));
        due("late under g", 1, x.parent(late, x.of(g, x.parameter(late, 0), 0)));
        int[] wildcards = {any, x.wild(1, o), x.wild(2, o), x.wild(1, own), x.wild(2, own), x.wild(1, x.of(g, any, 0))};
        for (int w : wildcards) {
            int first = x.above(x.of(h, o, w), pair), second = x.above(x.of(h, w, o), pair), both = x.above(x.of(h, w, w), pair);
            int[] above = {first, second, both, x.above(x.of(late, w, 0), g)};
            for (int t : above) noParent(x, "what is above, " + t, cls, t);
            int[] captures = {x.type(first, 2), x.type(second, 3), x.type(both, 2), x.type(both, 3), x.type(above[3], 2)};
            for (int c : captures) {
                due("a capture", 8, x.type(c, 0));
                noParent(x, "itself, " + c, cls, c);
                noParent(x, "as argument, " + c, cls, x.of(g, c, 0));
                noParent(x, "as first argument, " + c, cls, x.of(pair, c, own));
                noParent(x, "as second argument, " + c, cls, x.of(pair, own, c));
                noParent(x, "in an array, " + c, cls, x.of(g, x.array(c), 0));
                noParent(x, "deeper, " + c, cls, x.of(pair, o, x.of(g, x.of(g, c, 0), 0)));
                noParent(x, "a wildcard up to it, " + c, cls, x.of(g, x.of(g, x.wild(1, c), 0), 0));
                noParent(x, "a wildcard down to it, " + c, cls, x.of(g, x.of(g, x.wild(2, x.array(c)), 0), 0));
            }
        }
        int ownCapture = x.type(x.above(x.of(late, any, 0), g), 2);
        noParent(x, "of a type of the class itself", late, x.of(g, ownCapture, 0));
        due("the parents stay as they were", NONE, x.above(x.plain(cls), g));
        due("nor is pair above", NONE, x.above(x.plain(cls), pair));
        due("the type that captures came of", 1, x.parent(cls, x.of(g, x.of(h, own, x.of(g, o, 0)), 0)));
        due("with wildcards in it, too", 2, x.parent(cls, x.of(pair, x.of(h, any, x.wild(1, o)), own)));
        due("one more", 3, x.parent(cls, x.of(g, own, 0)));
        noParent(x, "OUTSIDE is told first", cls, x.of(g, ownCapture, 0));
        due("full", FULL, x.parent(cls, x.of(g, own, 0)));
    }

    private static void noParent(InferReduce x, String what, int cls, int type) {
        due(what + ": is a type", 1, type >= 0 ? 1 : 0);
        due(what + ": is no parent", OUTSIDE, x.parent(cls, type));
    }

    private static void promise4() {
        InferReduce x = new InferReduce();
        int[] wrong = {LOW, -1, 9, 40, HIGH};
        for (int w : wrong) due("plain " + w, OUTSIDE, x.plain(w));
        due("plain", 0, x.plain(3));
        due("another", 1, x.plain(0));
        due("alike ones have one number", 0, x.plain(3));
        due("RAW", 2, x.plain(x.declare(2)));
        due("its kind", 0, x.type(2, 0));
        due("its class", 9, x.type(2, 1));
        fill(x, 500);
        due("no room", FULL, x.plain(7));
        due("an old one needs none", 2, x.plain(9));
        due("OUTSIDE is told first", OUTSIDE, x.plain(39));
    }

    private static void promise5() {
        InferReduce x = new InferReduce();
        int one = x.declare(1), two = x.declare(2), none = x.declare(0);
        int o = x.plain(0), any = x.wild(0, 0), variable = x.variable(), array = x.array(x.primitive(4));
        int nothing = x.nothing(), primitive = x.primitive(4), parameter = x.parameter(one, 0);
        int[] wrongClass = {LOW, -1, 0, 8, none, 12, HIGH};
        for (int w : wrongClass) due("of class " + w, OUTSIDE, x.of(w, o, o));
        int[] wrongType = {LOW, -1, 100, HIGH, nothing, primitive};
        for (int w : wrongType) {
            due("first argument " + w, OUTSIDE, x.of(one, w, o));
            due("first of two " + w, OUTSIDE, x.of(two, w, o));
            due("second argument " + w, OUTSIDE, x.of(two, o, w));
        }
        int next = x.count(1);
        int[] right = {o, any, variable, array, parameter};
        for (int i = 0; i < right.length; i++) due("argument", next + i, x.of(one, right[i], LOW));
        due("b is not looked at", next, x.of(one, o, any));
        due("it has no second argument", NONE, x.type(next, 3));
        due("two arguments", next + 5, x.of(two, any, o));
        due("their order counts", next + 6, x.of(two, o, any));
        due("the same once more", next + 5, x.of(two, any, o));
        due("no more types were made", next + 7, x.count(1));
        int t = o;
        for (int d = 2; d <= 20; d++) t = x.of(two, o, t);
        due("20 deep", 20, x.type(t, 4));
        due("too deep", FULL, x.of(two, o, t));
        due("too deep on the left", FULL, x.of(two, t, o));
        due("OUTSIDE is told first", OUTSIDE, x.of(two, t, nothing));
        fill(x, 500);
        due("no room", FULL, x.of(two, any, any));
        due("room for an old one", next, x.of(one, o, 0));
    }

    private static void promise6() {
        InferReduce x = new InferReduce();
        int o = x.plain(0), p = x.primitive(0), n = x.nothing(), v = x.variable();
        int[] wrongSort = {LOW, -1, 3, HIGH};
        for (int w : wrongSort) due("wild of sort " + w, OUTSIDE, x.wild(w, o));
        due("any", 4, x.wild(0, HIGH));
        due("any, whatever the bound", 4, x.wild(0, o));
        due("up to", 5, x.wild(1, o));
        due("down to", 6, x.wild(2, o));
        due("up to a variable", 7, x.wild(1, v));
        int[] wrongBound = {LOW, -1, 100, HIGH, p, n, 4, 5};
        for (int w : wrongBound) {
            due("up to " + w, OUTSIDE, x.wild(1, w));
            due("down to " + w, OUTSIDE, x.wild(2, w));
        }
        due("up to, once more", 5, x.wild(1, o));
        int t = o;
        for (int d = 2; d <= 20; d++) t = x.array(t);
        due("too deep", FULL, x.wild(1, t));
        fill(x, 500);
        due("no room", FULL, x.wild(2, v));
        due("room for old ones", 4, x.wild(0, 0));
    }

    private static void promise7() {
        InferReduce x = new InferReduce();
        int one = x.declare(1), two = x.declare(2), none = x.declare(0);
        due("the first", 0, x.parameter(two, 1));
        due("the other", 1, x.parameter(two, 0));
        due("of another class", 2, x.parameter(one, 0));
        due("once more", 0, x.parameter(two, 1));
        int[][] wrong = {{one, 1}, {one, -1}, {two, 2}, {two, HIGH}, {two, LOW}, {none, 0}, {0, 0}, {8, 0}, {-1, 0}, {12, 0}, {LOW, 0}, {HIGH, 0}};
        for (int[] w : wrong) due("parameter " + w[0] + ", " + w[1], OUTSIDE, x.parameter(w[0], w[1]));
        InferReduce y = new InferReduce();
        y.declare(2);
        y.parameter(9, 0);
        fill(y, 500);
        due("no room", FULL, y.parameter(9, 1));
        due("room for an old one", 0, y.parameter(9, 0));
    }

    private static void promise8() {
        InferReduce x = new InferReduce();
        int o = x.plain(0), p = x.primitive(3), n = x.nothing(), w = x.wild(0, 0), v = x.variable();
        int[] wrong = {LOW, -1, 5, HIGH, n, w};
        for (int t : wrong) due("array of " + t, OUTSIDE, x.array(t));
        due("of a class", 5, x.array(o));
        due("of a primitive", 6, x.array(p));
        due("of a variable", 7, x.array(v));
        due("of an array", 8, x.array(7));
        due("once more", 5, x.array(o));
        due("2 deep", 2, x.type(5, 4));
        int t = v;
        for (int d = 2; d <= 20; d++) t = x.array(t);
        due("20 deep", 20, x.type(t, 4));
        due("too deep", FULL, x.array(t));
        fill(x, 500);
        due("no room", FULL, x.array(6));
        due("room for an old one", 5, x.array(o));
    }

    private static void promise9() {
        InferReduce x = new InferReduce();
        int[] wrong = {LOW, -1, 8, HIGH};
        for (int w : wrong) due("primitive " + w, OUTSIDE, x.primitive(w));
        for (int k = 7; k > 0; k--) due("primitive", 7 - k, x.primitive(k));
        due("once more", 2, x.primitive(5));
        due("it is not its box", 7, x.plain(6));
        fill(x, 500);
        due("no room", FULL, x.primitive(0));
        due("OUTSIDE is told first", OUTSIDE, x.primitive(8));
        due("room for an old one", 0, x.primitive(7));
    }

    private static void promise10() {
        InferReduce x = new InferReduce();
        x.plain(0);
        due("null", 1, x.nothing());
        due("once more", 1, x.nothing());
        due("its kind", 6, x.type(1, 0));
        InferReduce y = new InferReduce();
        fill(y, 500);
        due("no room", FULL, y.nothing());
    }

    private static void promise11() {
        InferReduce x = new InferReduce();
        x.plain(0);
        for (int i = 0; i < 12; i++) {
            due("variable", i + 1, x.variable());
            due("its number", i, x.type(i + 1, 1));
            due("how many", i + 1, x.count(2));
        }
        due("the 13th", FULL, x.variable());
        due("12 it stays", 12, x.count(2));
        x.clear();
        due("the first anew has its old type", 1, x.variable());
        due("no type more", 13, x.count(1));
        fill(x, 500);
        due("an old type needs no room", 2, x.variable());
        InferReduce y = new InferReduce();
        fill(y, 500);
        due("no room", FULL, y.variable());
        due("no variable then", 0, y.count(2));
    }

    private static void promise12() {
        formulasOutside();
        formulasCompatible();
        formulasSub();
        formulasContained();
        formulasEqual();
        boundsOfFormulas();
        boundsInOrder();
        heldTogether();
        heldArguments();
        heldArgumentsOnly();
        heldArgumentsFull();
        heldAfterClear();
        numberZero();
        formulasDeep();
        formulasFull();
    }

    private static void formulasOutside() {
        World w = world();
        InferReduce x = w.x;
        int[] wrongSort = {LOW, -1, 4, HIGH};
        for (int s : wrongSort) due("formula of sort " + s, OUTSIDE, x.formula(s, w.str, w.str));
        int[] wrongType = {LOW, -1, x.count(1) + 1, HIGH};
        for (int t : wrongType) {
            for (int sort = 0; sort < 4; sort++) {
                due("left " + t, OUTSIDE, x.formula(sort, t, w.str));
                due("right " + t, OUTSIDE, x.formula(sort, w.str, t));
            }
        }
        int any = w.any();
        for (int sort = 0; sort < 4; sort++) {
            int want = sort == CONTAINED ? 0 : OUTSIDE;
            w.renew();
            due("a wildcard on the right", want, x.formula(sort, w.str, any));
            w.renew();
            due("a wildcard on the left", want, x.formula(sort, any, w.str));
        }
        w.renew();
        int deep = w.list(x.array(w.c));
        due("a variable that is there", 0, x.formula(SUB, w.str, w.c));
        x.clear();
        x.variable();
        x.variable();
        due("one that is not there any more", OUTSIDE, x.formula(SUB, w.str, w.c));
        due("and within a type", OUTSIDE, x.formula(SUB, deep, w.object));
        due("what is outside is not told", 0, x.count(3));
        x.variable();
        due("one that is there again", 0, x.formula(SUB, deep, w.object));
        for (int i = 1; i < 60; i++) due("up to 60", i, x.formula(SUB, w.str, w.str));
        due("the 61st", NONE, x.formula(SUB, w.str, w.str));
        due("OUTSIDE is told first", OUTSIDE, x.formula(SUB, w.str, -1));
        due("60 it stays", 60, x.count(3));
        w.no("Str is not Num", SUB, w.str, w.num);
        due("in state 1", NONE, x.formula(SUB, w.str, w.str));
        due("OUTSIDE is told first there too", OUTSIDE, x.formula(4, w.str, w.str));
    }

    private static void formulasCompatible() {
        World w = world();
        InferReduce x = w.x;
        String[] widens = {"1.......", ".11.1111", "..1.1111", "...11111", "....1111", ".....111", "......11", ".......1"};
        for (int s = 0; s < 8; s++) {
            for (int t = 0; t < 8; t++) {
                int want = widens[s].charAt(t) == '1' ? FINE : CAME_FALSE;
                String name = s + " to " + t;
                w.leads("primitives " + name, want, COMPATIBLE, x.primitive(s), x.primitive(t));
                due("made less " + name, 1, x.count(6));
                w.leads("a box " + name, want, COMPATIBLE, x.plain(s + 1), x.primitive(t));
                due("made less, a box " + name, 1, x.count(6));
                w.leads("a primitive to a box " + name, s == t ? FINE : CAME_FALSE, COMPATIBLE, x.primitive(s), x.plain(t + 1));
                due("made less, to a box " + name, 2, x.count(6));
            }
        }
        int i = x.primitive(4), integer = x.plain(5);
        w.yes("int to OBJECT", COMPATIBLE, i, w.object);
        w.no("Str to int", COMPATIBLE, w.str, i);
        w.no("OBJECT to int", COMPATIBLE, w.object, i);
        w.no("an array of boxes to int", COMPATIBLE, x.array(integer), i);
        w.no("null to int", COMPATIBLE, x.nothing(), i);
        w.yes("null to Str", COMPATIBLE, x.nothing(), w.str);
        w.yes("Sub to Str", COMPATIBLE, w.sub, w.str);
        due("made less: it, and SUB", 2, x.count(6));
        w.yes("int to a", COMPATIBLE, i, w.a);
        w.dueBound("int to a", 0, ABOVE, 0, integer, 0);
        w.dueCounts("int to a: COMPATIBLE twice, SUB", 1, FINE, 3, NONE);
        w.yes("a to int", COMPATIBLE, w.a, i);
        w.dueBound("a to int", 0, IS, 0, integer, 0);
        w.dueCounts("a to int: COMPATIBLE, EQUAL", 1, FINE, 2, NONE);
        w.no("List<a> to int", COMPATIBLE, w.list(w.a), i);
        w.no("int to List<a>", COMPATIBLE, i, w.list(w.a));
    }

    private static void formulasSub() {
        World w = world();
        InferReduce x = w.x;
        int i = x.primitive(4), nothing = x.nothing();
        w.yes("the same", SUB, i, i);
        w.yes("null and a class", SUB, nothing, w.str);
        w.yes("null and a variable", SUB, nothing, w.a);
        due("no bound comes of null", 0, x.count(4));
        w.no("null and a primitive", SUB, nothing, i);
        w.no("a class and null", SUB, w.str, nothing);
        w.no("a variable and null", SUB, w.a, nothing);
        w.no("a primitive and OBJECT", SUB, i, w.object);
        w.no("a variable and a primitive", SUB, w.a, i);
        w.no("a primitive and a variable", SUB, i, w.a);
        w.yes("an array and OBJECT", SUB, x.array(i), w.object);
        w.yes("a parameter and OBJECT", SUB, x.parameter(MAP, 1), w.object);
        w.no("a parameter and another", SUB, x.parameter(MAP, 1), x.parameter(MAP, 0));
        w.no("a class and a parameter", SUB, w.str, x.parameter(MAP, 0));
        w.yes("Sub, Str", SUB, w.sub, w.str);
        w.no("Str, Sub", SUB, w.str, w.sub);
        w.yes("List<Str>, RAW Seq", SUB, w.list(w.str), x.plain(SEQ));
        w.no("RAW List, Seq<Str>", SUB, x.plain(LIST), w.seq(w.str));
        w.no("Str, Seq<Str>", SUB, w.str, w.seq(w.str));
        w.yes("Strs, Seq<Str>", SUB, w.strs, w.seq(w.str));
        due("SUB, CONTAINED, EQUAL", 3, x.count(6));
        w.no("Strs, Seq<Object>", SUB, w.strs, w.seq(w.object));
        w.yes("Map<Sub, Num>, Map<? up to Str, ?>", SUB, w.map(w.sub, w.num), w.map(w.upTo(w.str), w.any()));
        w.no("the first argument ends all", SUB, w.map(w.num, w.num), w.map(w.str, w.num));
        due("its second one is not asked", 3, x.count(6));
        w.no("the second argument counts", SUB, w.map(w.str, w.num), w.map(w.str, w.str));
        due("SUB, CONTAINED and EQUAL twice", 5, x.count(6));
        w.yes("Sub[], Str[]", SUB, x.array(w.sub), x.array(w.str));
        w.no("Str[], Sub[]", SUB, x.array(w.str), x.array(w.sub));
        w.no("Str, Str[]", SUB, w.str, x.array(w.str));
        w.no("int[], long[]", SUB, x.array(i), x.array(x.primitive(5)));
        due("what they are of is not asked", 1, x.count(6));
        w.no("int[], a[]", SUB, x.array(i), x.array(w.a));
        due("nor is a variable", 1, x.count(6));
        w.no("a[], int[]", SUB, x.array(w.a), x.array(i));
        due("on either side", 1, x.count(6));
        w.yes("Str[], a[]", SUB, x.array(w.str), x.array(w.a));
        w.dueBound("Str[], a[]", 0, ABOVE, 0, w.str, 0);
        int high = x.type(x.above(w.list(w.upTo(w.str)), SEQ), 2);
        int low = x.type(x.above(w.list(w.downTo(w.str)), SEQ), 2);
        int free = x.type(x.above(w.list(w.any()), SEQ), 2);
        due("a capture", 8, x.type(high, 0));
        w.yes("a capture up to Str is SUB Str", SUB, high, w.str);
        w.no("but not Sub", SUB, high, w.sub);
        w.no("nothing is SUB of it", SUB, w.sub, high);
        w.yes("Sub is SUB of a capture down to Str", SUB, w.sub, low);
        w.no("OBJECT is not", SUB, w.object, low);
        w.no("it is not SUB of Str", SUB, low, w.str);
        w.yes("it is of OBJECT", SUB, low, w.object);
        w.no("nothing is SUB of a capture of any", SUB, w.sub, free);
    }

    private static void formulasContained() {
        World w = world();
        InferReduce x = w.x;
        int any = w.any(), upStr = w.upTo(w.str), upSub = w.upTo(w.sub), downStr = w.downTo(w.str), downSub = w.downTo(w.sub);
        int upObject = w.upTo(w.object);
        w.yes("Str in Str", CONTAINED, w.str, w.str);
        due("EQUAL is made", 2, x.count(6));
        w.no("Sub in Str", CONTAINED, w.sub, w.str);
        w.no("a wildcard in Str", CONTAINED, upStr, w.str);
        due("no EQUAL is made", 1, x.count(6));
        w.no("a wildcard in a variable", CONTAINED, any, w.a);
        int[] all = {w.str, any, upStr, downStr, w.a};
        for (int s : all) w.yes("in any", CONTAINED, s, any);
        w.yes("Sub in up to Str", CONTAINED, w.sub, upStr);
        w.no("Str in up to Sub", CONTAINED, w.str, upSub);
        w.yes("up to Sub in up to Str", CONTAINED, upSub, upStr);
        w.no("up to Str in up to Sub", CONTAINED, upStr, upSub);
        w.no("any in up to Str", CONTAINED, any, upStr);
        w.yes("any in up to OBJECT", CONTAINED, any, upObject);
        w.no("down to in up to Str", CONTAINED, downStr, upStr);
        w.yes("down to in up to OBJECT", CONTAINED, downStr, upObject);
        w.yes("down to in up to a", CONTAINED, downStr, w.upTo(w.a));
        w.dueBound("down to in up to a", 0, IS, 0, w.object, 0);
        w.yes("any in up to a", CONTAINED, any, w.upTo(w.a));
        w.dueBound("any in up to a", 0, ABOVE, 0, w.object, 0);
        w.yes("Str in down to Sub", CONTAINED, w.str, downSub);
        w.no("Sub in down to Str", CONTAINED, w.sub, downStr);
        w.yes("down to Str in down to Sub", CONTAINED, downStr, downSub);
        w.no("down to Sub in down to Str", CONTAINED, downSub, downStr);
        w.no("up to in down to", CONTAINED, upStr, downStr);
        w.no("any in down to", CONTAINED, any, downStr);
        w.yes("a in down to Str", CONTAINED, w.a, downStr);
        w.dueBound("a in down to Str", 0, ABOVE, 0, w.str, 0);
    }

    private static void formulasEqual() {
        World w = world();
        InferReduce x = w.x;
        int i = x.primitive(4), nothing = x.nothing();
        w.yes("the same", EQUAL, w.list(w.a), w.list(w.a));
        due("no bound comes", 0, x.count(4));
        w.no("both proper", EQUAL, w.sub, w.str);
        w.no("both proper with arguments", EQUAL, w.list(w.sub), w.list(w.str));
        due("their arguments are not asked", 1, x.count(6));
        w.no("a and null", EQUAL, w.a, nothing);
        w.no("null and a", EQUAL, nothing, w.a);
        w.no("a and int", EQUAL, w.a, i);
        w.no("int and a", EQUAL, i, w.a);
        w.no("List<a> and Seq<Str>", EQUAL, w.list(w.a), w.seq(w.str));
        w.no("List<a> and Strs", EQUAL, w.list(w.a), w.strs);
        w.no("a[] and List<Str>", EQUAL, x.array(w.a), w.list(w.str));
        w.yes("Map<a, Num> and Map<Str, b>", EQUAL, w.map(w.a, w.num), w.map(w.str, w.b));
        w.dueBound("Map", 0, IS, 0, w.str, 0);
        w.dueBound("Map", 1, IS, 1, w.num, 0);
        due("EQUAL of both and of two arguments", 3, x.count(6));
        w.yes("a[] and Str[]", EQUAL, x.array(w.a), x.array(w.str));
        w.dueBound("arrays", 0, IS, 0, w.str, 0);
        w.no("a[] and int[]", EQUAL, x.array(w.a), x.array(i));
        w.yes("List<up to a> and List<up to Str>", EQUAL, w.list(w.upTo(w.a)), w.list(w.upTo(w.str)));
        w.dueBound("wildcards", 0, IS, 0, w.str, 0);
        w.no("wildcards of two sorts", EQUAL, w.list(w.upTo(w.a)), w.list(w.downTo(w.str)));
        w.no("CONTAINED is not asked", EQUAL, w.list(w.upTo(w.a)), w.list(w.any()));
        int capture = x.type(x.above(w.map(w.any(), w.a), SEQ), 2), other = x.type(x.above(w.map(w.any(), w.str), SEQ), 2);
        w.yes("captures of one place", EQUAL, capture, other);
        w.dueBound("captures", 0, IS, 0, w.str, 0);
        due("EQUAL of captures, types, two arguments", 4, x.count(6));
        int turned = x.declare(2);
        x.parent(turned, w.map(x.parameter(turned, 1), x.parameter(turned, 0)));
        int both = x.above(x.of(turned, w.any(), w.upTo(w.a)), MAP);
        due("its second argument first", 1, x.type(x.type(both, 2), 2));
        w.no("captures of two places", EQUAL, x.type(both, 2), x.type(both, 3));
        due("their types are not asked", 1, x.count(6));
        w.no("a parameter", EQUAL, x.parameter(MAP, 0), w.list(w.a));
    }

    private static void boundsOfFormulas() {
        World w = world();
        InferReduce x = w.x;
        w.yes("a, b", SUB, w.a, w.b);
        w.dueBound("a, b", 0, BELOW, 0, w.b, 0);
        w.dueBound("a, b", 1, ABOVE, 1, w.a, 0);
        due("two bounds", 2, x.count(4));
        due("told again", 1, x.formula(SUB, w.a, w.b));
        w.dueCounts("alike bounds come once", 2, FINE, 2, NONE);
        w.yes("b is a", EQUAL, w.b, w.a);
        w.dueBound("b is a", 0, IS, 1, w.a, 0);
        w.dueBound("b is a", 1, IS, 0, w.b, 0);
        w.yes("Str is a", EQUAL, w.str, w.a);
        w.dueBound("Str is a", 0, IS, 0, w.str, 0);
        w.yes("Str, a", SUB, w.str, w.a);
        w.dueBound("Str, a", 0, ABOVE, 0, w.str, 0);
        w.yes("a, Str", SUB, w.a, w.str);
        w.dueBound("a, Str", 0, BELOW, 0, w.str, 0);
        w.yes("Strs, Seq<a>", SUB, w.strs, w.seq(w.a));
        w.dueBound("Strs, Seq<a>", 0, IS, 0, w.str, 0);
        w.no("Map<a, Num>, Map<Str, Str>", SUB, w.map(w.a, w.num), w.map(w.str, w.str));
        w.dueBound("what came before false stays", 0, IS, 0, w.str, 0);
        w.dueCounts("false", 1, CAME_FALSE, 5, 0);
    }

    /** Which of two bounds comes first, where both types are variables. */
    private static void boundsInOrder() {
        World w = world();
        InferReduce x = w.x;
        int[][] alike = {{w.a, w.b}, {w.list(w.a), w.list(w.b)}, {x.array(w.a), x.array(w.b)}};
        for (int[] two : alike) {
            w.yes("a, b EQUAL", EQUAL, two[0], two[1]);
            w.dueBound("a first", 0, IS, 0, w.b, 0);
            w.dueBound("then b", 1, IS, 1, w.a, 0);
            w.yes("b, a EQUAL", EQUAL, two[1], two[0]);
            w.dueBound("b first", 0, IS, 1, w.a, 0);
            w.dueBound("then a", 1, IS, 0, w.b, 0);
            w.yes("a, b CONTAINED", CONTAINED, two[0], two[1]);
            w.dueBound("a first", 0, IS, 0, w.b, 0);
            w.dueBound("then b", 1, IS, 1, w.a, 0);
        }
        w.yes("a is List<b>", EQUAL, w.a, w.list(w.b));
        x.formula(EQUAL, w.a, w.list(w.c));
        w.dueBound("the elder one's is on the left", 2, IS, 1, w.c, 1);
        w.dueBound("the new one's on the right", 3, IS, 2, w.b, 1);
        due("in the first order alone", 4, x.count(4));
        due("told twice, EQUAL of both, and of b and c", 4, x.count(6));
        w.yes("a in a wildcard up to b", CONTAINED, w.a, w.upTo(w.b));
        w.dueBound("a below b", 0, BELOW, 0, w.b, 0);
        w.dueBound("b above a", 1, ABOVE, 1, w.a, 0);
        w.yes("a in a wildcard down to b", CONTAINED, w.a, w.downTo(w.b));
        w.dueBound("b below a", 0, BELOW, 1, w.a, 0);
        w.dueBound("a above b", 1, ABOVE, 0, w.b, 0);
        w.yes("two arguments", SUB, w.map(w.a, w.b), w.map(w.upTo(w.str), w.downTo(w.num)));
        w.dueBound("the first argument's", 0, BELOW, 0, w.str, 0);
        w.dueBound("the second one's", 1, ABOVE, 1, w.num, 0);
    }

    private static void heldTogether() {
        World w = world();
        InferReduce x = w.x;
        w.yes("a is List<b>", EQUAL, w.a, w.list(w.b));
        due("a is List<Str>", 1, x.formula(EQUAL, w.a, w.list(w.str)));
        w.dueBound("two that it is", 2, IS, 1, w.str, 1);
        // EQUAL told twice; EQUAL of the types and of their arguments; a is List<Str> once more, by b
        w.dueCounts("two that it is", 3, FINE, 5, NONE);
        w.yes("a is Sub", EQUAL, w.a, w.sub);
        x.formula(SUB, w.a, w.str);
        w.dueCounts("a is Sub, below Str", 2, FINE, 3, NONE);
        w.yes("a below Sub", SUB, w.a, w.sub);
        x.formula(EQUAL, w.a, w.str);
        w.dueCounts("a is Str, below Sub", 2, CAME_FALSE, 3, 1);
        w.yes("a above Sub", SUB, w.sub, w.a);
        x.formula(EQUAL, w.a, w.str);
        w.dueCounts("a is Str, above Sub", 2, FINE, 3, NONE);
        w.yes("a is Sub", EQUAL, w.a, w.sub);
        x.formula(SUB, w.str, w.a);
        w.dueCounts("a is Sub, above Str", 2, CAME_FALSE, 3, 1);
        w.yes("a below Str", SUB, w.a, w.str);
        x.formula(SUB, w.sub, w.a);
        w.dueCounts("a above Sub, below Str", 2, FINE, 3, NONE);
        x.formula(SUB, w.num, w.a);
        w.dueCounts("a above Num, below Str", 3, CAME_FALSE, 5, 2);
        w.yes("a below b", SUB, w.a, w.b);
        x.formula(SUB, w.sub, w.a);
        w.dueBound("Sub below a below b", 3, ABOVE, 1, w.sub, 1);
        w.yes("b below List<a>", SUB, w.b, w.list(w.a));
        x.formula(SUB, w.seq(w.a), w.c);
        x.formula(EQUAL, w.a, w.str);
        w.dueBound("put into what b is below", 3, BELOW, 1, w.list(w.str), 2);
        w.dueBound("put into what c is above", 4, ABOVE, 2, w.seq(w.str), 2);
        w.yes("c is List<a>", EQUAL, w.c, w.list(w.a));
        x.formula(EQUAL, w.a, w.str);
        w.dueBound("put into what c is", 2, IS, 2, w.list(w.str), 1);
        w.yes("a is List<b>, not proper", EQUAL, w.a, w.list(w.b));
        x.formula(SUB, w.c, w.seq(w.a));
        due("it is not put in", 2, x.count(4));
        w.yes("a below Seq<? super a>", SUB, w.a, w.seq(w.downTo(w.a)));
        x.formula(EQUAL, w.a, w.seq(w.object));
        w.dueBound("of a is Seq<OBJECT>: SUB, CONTAINED, SUB", 2, BELOW, 0, w.object, 1);
        w.dueCounts("nothing is put into its own bounds", 3, FINE, 6, NONE);
        int capture = x.type(x.above(w.list(w.upTo(w.a)), SEQ), 2);
        w.yes("b is a capture", EQUAL, w.b, capture);
        x.formula(EQUAL, w.a, w.str);
        w.dueBound("put into a capture", 2, IS, 1, x.type(x.above(w.list(w.upTo(w.str)), SEQ), 2), 1);
    }

    private static void heldArguments() {
        World w = world();
        InferReduce x = w.x;
        w.yes("a below Seq<b>", SUB, w.a, w.seq(w.b));
        x.formula(SUB, w.a, w.list(w.str));
        w.dueBound("Seq<b> and List<Str>", 2, IS, 1, w.str, 1);
        w.yes("a below Map<b, Str>", SUB, w.a, w.map(w.b, w.str));
        x.formula(SUB, w.a, w.map(w.num, w.c));
        // as Seq: b, Num; as Map: b, Num, and Str, c
        w.dueBound("two Maps", 2, IS, 1, w.num, 1);
        w.dueBound("two Maps", 3, IS, 2, w.str, 1);
        w.yes("a below Seq<Str>", SUB, w.a, w.seq(w.str));
        x.formula(SUB, w.a, w.strs);
        w.dueCounts("the same arguments", 2, FINE, 3, NONE);
        x.formula(SUB, w.a, w.seq(w.num));
        w.dueCounts("others", 3, CAME_FALSE, 5, 2);
        w.yes("a below Seq<?>", SUB, w.a, w.seq(w.any()));
        x.formula(SUB, w.a, w.list(w.b));
        w.dueCounts("a wildcard is not asked", 2, FINE, 2, NONE);
        w.yes("a below List<b>", SUB, w.a, w.list(w.b));
        x.formula(SUB, w.a, w.seq(w.any()));
        w.dueCounts("nor one in the new bound", 2, FINE, 2, NONE);
        w.yes("a below RAW Seq", SUB, w.a, x.plain(SEQ));
        x.formula(SUB, w.a, w.list(w.b));
        w.dueCounts("RAW is not asked", 2, FINE, 2, NONE);
    }

    /** Arguments are held against one another for two bounds BELOW alone; a false one ends it. */
    private static void heldArgumentsOnly() {
        World w = world();
        InferReduce x = w.x;
        w.yes("a below Seq<Str>", SUB, w.a, w.seq(w.str));
        x.formula(SUB, w.list(w.str), w.a);
        w.dueCounts("above and below: SUB, CONTAINED, EQUAL", 2, FINE, 5, NONE);
        w.yes("a is List<Str>", EQUAL, w.a, w.list(w.str));
        x.formula(SUB, w.a, w.seq(w.str));
        w.dueCounts("is and below: SUB, CONTAINED, EQUAL", 2, FINE, 5, NONE);
        w.yes("a above List<Str>", SUB, w.list(w.str), w.a);
        x.formula(SUB, w.seq(w.num), w.a);
        w.dueCounts("above and above: nothing", 2, FINE, 2, NONE);
        w.yes("a below List<Str>", SUB, w.a, w.list(w.str));
        x.formula(SUB, w.b, w.list(w.num));
        w.dueCounts("of two variables: nothing", 2, FINE, 2, NONE);
        w.yes("a below Map<?, b>", SUB, w.a, w.map(w.any(), w.b));
        x.formula(SUB, w.a, w.map(w.str, w.num));
        w.dueCounts("as Seq there is a capture, which is no wildcard, and not Str", 2, CAME_FALSE, 3, 1);
        w.yes("a below Map<Str, b>", SUB, w.a, w.map(w.str, w.b));
        x.formula(SUB, w.a, w.map(w.num, w.str));
        // as Seq: Str, Num, which is false
        w.dueCounts("the first false one ends it", 2, CAME_FALSE, 3, 1);
        int both = x.declare(2), one = x.declare(1), other = x.declare(1), first = x.declare(1), second = x.declare(1);
        x.parent(first, x.of(one, x.parameter(first, 0), 0));
        x.parent(first, x.of(other, x.parameter(first, 0), 0));
        x.parent(second, x.of(other, x.parameter(second, 0), 0));
        w.yes("a below First<b>", SUB, w.a, x.of(first, w.b, 0));
        x.formula(SUB, w.a, x.of(second, w.str, 0));
        w.dueBound("a class of one alone is passed over", 2, IS, 1, w.str, 1);
        w.yes("a below Pair<?, b>", SUB, w.a, x.of(both, w.any(), w.b));
        x.formula(SUB, w.a, x.of(both, w.str, w.num));
        w.dueBound("the second ones, though the first is a wildcard", 2, IS, 1, w.num, 1);
        w.yes("a below Pair<Str, b>", SUB, w.a, x.of(both, w.str, w.b));
        x.formula(SUB, w.a, x.of(both, w.num, w.str));
        w.dueCounts("a false first argument: the second is not asked", 2, CAME_FALSE, 3, 1);
        InferReduce y = new InferReduce();
        int s = y.declare(0), g = y.declare(1), h = y.declare(1), low = y.declare(1), a = y.variable(), str = y.plain(s);
        y.parent(low, y.of(g, y.parameter(low, 0), 0));
        y.parent(low, y.of(h, y.parameter(low, 0), 0));
        int left = y.of(low, str, 0), right = y.of(low, y.plain(8), 0), before = y.count(1);
        y.formula(SUB, a, left);
        due("no type is made for one", before, y.count(1));
        y.formula(SUB, a, right);
        due("it is false as the first class", CAME_FALSE, y.count(5));
        due("types are made for that one alone, none for classes without parameters", before + 2, y.count(1));
        dueType(y, "the elder one's", before, 1, g, str);
        dueType(y, "the new one's", before + 1, 1, g, y.plain(8));
    }

    private static void heldArgumentsFull() {
        for (int room = 0; room < 3; room++) {
            InferReduce x = new InferReduce();
            int g = x.declare(1), h = x.declare(1), a = x.variable(), b = x.variable();
            x.parent(h, x.of(g, x.parameter(h, 0), 0));
            int left = x.of(h, x.plain(6), 0), right = x.of(h, b, 0);
            fill(x, 500 - room);
            x.formula(SUB, a, left);
            due("one alone needs no type", FINE, x.count(5));
            x.formula(SUB, a, right);
            due("two with room for " + room, room < 2 ? CAME_FULL : FINE, x.count(5));
            due("at the second", room < 2 ? 1 : NONE, x.count(7));
            due("all room is taken", 500, x.count(1));
            due("what came of it", room < 2 ? NONE : x.plain(6), x.instance(1));
            due("bounds", room < 2 ? 2 : 3, x.count(4));
        }
    }

    /** What was put in place of a variable is forgotten with it. */
    private static void heldAfterClear() {
        World w = world();
        InferReduce x = w.x;
        w.yes("c below List<a>", SUB, w.c, w.list(w.a));
        x.formula(EQUAL, w.a, w.str);
        w.dueBound("a is put in", 2, BELOW, 2, w.list(w.str), 1);
        w.yes("c below Map<a, b>", SUB, w.c, w.map(w.a, w.b));
        x.formula(EQUAL, w.b, w.num);
        w.dueBound("b alone is put in", 2, BELOW, 2, w.map(w.a, w.num), 1);
        due("a is left", 0, x.judge(0));
        w.yes("a, a", SUB, w.list(w.a), w.list(w.a));
        due("a is left there, too", 0, x.judge(0));
    }

    /** The type with the number 0, wherever a type can be. */
    private static void numberZero() {
        InferReduce x = new InferReduce();
        int top = x.declare(0), low = x.declare(0), lower = x.declare(0), g = x.declare(1), h = x.declare(1);
        due("it is the first type", 0, x.plain(top));
        dueType(x, "the first type", 0, 0, top, NONE, NONE, 1, 1);
        due("as a parent", 1, x.parent(low, 0));
        due("as a parent's parent", 1, x.parent(lower, x.plain(low)));
        x.parent(h, x.of(g, x.parameter(h, 0), 0));
        due("above", 0, x.above(x.plain(low), top));
        due("above through two", 0, x.above(x.plain(lower), top));
        due("above itself", 0, x.above(0, top));
        int a = x.variable(), listed = x.of(g, 0, 0), array = x.array(0);
        due("as an argument", 0, x.type(listed, 2));
        due("as an array's", 0, x.type(array, 1));
        due("above, as an argument", listed, x.above(x.of(h, 0, 0), g));
        int free = x.type(x.above(x.of(h, x.wild(2, 0), 0), g), 2), held = x.type(x.above(x.of(h, x.wild(1, 0), 0), g), 2);
        int[][] subs = {{x.plain(lower), 0}, {x.plain(low), free}, {held, 0}, {x.array(x.plain(low)), array}, {0, x.plain(0)}};
        for (int[] two : subs) {
            x.clear();
            x.formula(SUB, two[0], two[1]);
            due("SUB of or with it", FINE, x.count(5));
        }
        x.clear();
        x.variable();
        x.formula(SUB, listed, x.of(g, a, 0));
        due("bound to it", 0, x.instance(0));
        due("judged with it", 1, x.judge(0));
        x.clear();
        x.variable();
        x.formula(SUB, 0, a);
        due("resolved", 1, x.resolve());
        due("joined to it", 0, x.instance(0));
        x.clear();
        x.variable();
        x.formula(SUB, a, 0);
        x.formula(SUB, a, x.plain(0));
        due("resolved", 1, x.resolve());
        due("the lowest", 0, x.instance(0));
    }

    /** Each class is under one that holds a class two before it, so that formulas come within one another, 60 deep and no more. */
    private static void formulasDeep() {
        InferReduce x = new InferReduce();
        int n = x.declare(1);
        for (int i = 0; i < 30; i++) x.declare(0);
        for (int i = 12; i < 40; i++) {
            int next = Math.max(i - 2, 10);
            due("a parent", 1, x.parent(i, x.of(n, x.of(n, x.wild(2, x.plain(next)), 0), 0)));
        }
        due("the last parent", 1, x.parent(11, x.of(n, x.plain(0), 0)));
        int s = x.plain(39), t = x.of(n, x.wild(2, x.plain(38)), 0);
        x.formula(COMPATIBLE, s, t);
        due("60 within one another", FINE, x.count(5));
        due("60 made less", 60, x.count(6));
        due("60 judged", 1, x.judge(0));
        x.formula(COMPATIBLE, x.array(s), x.array(t));
        due("61 within one another", CAME_FULL, x.count(5));
        due("the 61st is not made less", 120, x.count(6));
        due("at the second", 1, x.count(7));
        due("61 judged", FULL, x.judge(1));
        due("judging leaves the state", CAME_FULL, x.count(5));
        int left = x.array(s), right = x.array(t);
        for (int deep = 60; deep < 62; deep++) {
            deepHeld(x, deep, left, right);
            deepChosen(x, deep, left, right);
            left = x.array(left);
            right = x.array(right);
        }
    }

    /** Types whose SUB is so many formulas within one another come together in the bounds of one variable. */
    private static void deepHeld(InferReduce x, int deep, int left, int right) {
        x.clear();
        int a = x.variable();
        x.formula(SUB, left, a);
        x.formula(SUB, a, right);
        due(deep + " within one another, held", deep <= 60 ? FINE : CAME_FULL, x.count(5));
        due("made less", 2 + 60, x.count(6));
        due("at the second", deep <= 60 ? NONE : 1, x.count(7));
    }

    private static void deepChosen(InferReduce x, int deep, int left, int right) {
        x.clear();
        int a = x.variable();
        x.formula(SUB, left, a);
        x.formula(SUB, right, a);
        due("they do not come together as they are told", FINE, x.count(5));
        due(deep + " within one another, chosen for", deep <= 60 ? 1 : NONE, x.resolve());
        due("state", deep <= 60 ? FINE : CAME_FULL, x.count(5));
        due("as it was resolved", NONE, x.count(7));
        due("the upper one", deep <= 60 ? right : NONE, x.instance(0));
    }

    private static void formulasFull() {
        InferReduce x = new InferReduce();
        int[] v = new int[12];
        for (int i = 0; i < 12; i++) v[i] = x.variable();
        int told = 0;
        for (int i = 0; i < 12 && x.count(5) == FINE; i++) due("told", told++, x.formula(SUB, v[i], v[(i + 1) % 12]));
        due("too many bounds", CAME_FULL, x.count(5));
        due("200 stay", 200, x.count(4));
        due("at the last", told - 1, x.count(7));
        due("NONE till clear", NONE, x.formula(SUB, v[0], v[0]));
        due("resolve too", NONE, x.resolve());
        InferReduce y = new InferReduce();
        int g = y.declare(1), h = y.declare(1);
        y.parent(h, y.of(g, y.of(g, y.parameter(h, 0), 0), 0));
        int a = y.variable(), i = y.primitive(5), made = y.of(h, y.plain(0), 0), t = y.of(g, a, 0);
        fill(y, 499);
        y.formula(SUB, made, t);
        due("no room for a type", CAME_FULL, y.count(5));
        due("what was made stays", 500, y.count(1));
        due("of the formula at which it was", 0, y.count(7));
        y.clear();
        y.variable();
        y.formula(COMPATIBLE, i, a);
        due("no room for a box", CAME_FULL, y.count(5));
        InferReduce u = new InferReduce();
        g = u.declare(1);
        h = u.declare(1);
        u.parent(h, u.of(g, u.parameter(h, 0), 0));
        int raw = u.plain(g), argued = u.of(h, u.plain(6), 0), rawUnder = u.plain(h);
        fill(u, 500);
        u.formula(SUB, rawUnder, raw);
        due("old types need no room", FINE, u.count(5));
        u.formula(SUB, argued, raw);
        due("what is above is made, though it is only asked whether it is", CAME_FULL, u.count(5));
        InferReduce z = new InferReduce();
        int b = z.variable(), c = z.variable(), deep = z.plain(0), over = c;
        for (int d = 0; d < 18; d++) deep = z.array(deep);
        for (int d = 0; d < 2; d++) over = z.array(over);
        z.formula(SUB, b, over);
        z.formula(EQUAL, c, deep);
        due("too deep a type", CAME_FULL, z.count(5));
        due("the bound stays", 2, z.count(4));
        compatibleFull();
        twentyThousand();
    }

    private static void compatibleFull() {
        InferReduce x = new InferReduce();
        int g = x.declare(1), h = x.declare(1);
        x.parent(h, x.of(g, x.parameter(h, 0), 0));
        int s = x.of(h, x.plain(6), 0), t = x.of(g, x.plain(0), 0);
        fill(x, 500);
        x.formula(COMPATIBLE, s, t);
        due("no room for what is above", CAME_FULL, x.count(5));
        due("SUB is not asked then", 1, x.count(6));
        due("nor is it unchecked", 0, x.unchecked(0));
        due("judged", FULL, x.judge(0));
    }

    private static void twentyThousand() {
        InferReduce x = new InferReduce();
        int cls = x.declare(2), a = x.variable(), b = x.variable(), s = a, t = b;
        for (int d = 0; d < 13; d++) {
            s = x.of(cls, s, s);
            t = x.of(cls, t, t);
        }
        x.formula(EQUAL, s, t);
        due("fewer than 20000", FINE, x.count(5));
        int made = x.count(6);
        // 16383 of the tree; a is b and b is a against one another, in either order once
        due("of the whole tree", 16383, made);
        x.formula(EQUAL, s, t);
        due("the limit is that of one call", FINE, x.count(5));
        due("both are counted", 2 * 16383, x.count(6));
        x.formula(EQUAL, x.of(cls, s, s), x.of(cls, t, t));
        due("more than 20000", CAME_FULL, x.count(5));
        due("one too many is not counted", 2 * 16383 + 20000, x.count(6));
    }

    private static void promise13() {
        World w = world();
        InferReduce x = w.x;
        x.clear();
        due("no variables", 0, x.resolve());
        w.renew();
        due("no bounds", 3, x.resolve());
        for (int v = 0; v < 3; v++) w.dueBound("no bounds", v, IS, v, w.object, NONE);
        w.dueCounts("no bounds", 3, FINE, 3, NONE);
        due("all are settled", 3, x.resolve());
        w.dueCounts("nothing is done", 3, FINE, 3, NONE);
        joins(w);
        joinsFull();
        joinsFullOfClasses();
        lowest(w);
        lowestFull();
        falseEndsChoosing(w);
        groups(w);
        longGroups(w);
        w.no("false", SUB, w.str, w.num);
        due("in state 1", NONE, x.resolve());
    }

    private static void joins(World w) {
        InferReduce x = w.x;
        int free = w.seq(w.any());
        w.dueJoin("one alone", w.sub, w.sub);
        w.dueJoin("the greater", w.str, w.sub, w.str);
        w.dueJoin("the greater of three", w.str, w.sub, w.str, w.sub);
        w.dueJoin("no class but OBJECT", w.object, w.str, w.num);
        w.dueJoin("Seq of one argument", w.seq(w.str), w.list(w.str), w.map(w.str, w.num));
        w.dueJoin("Seq of any", free, w.list(w.str), w.map(w.num, w.num));
        w.dueJoin("List of any is the least class", w.list(w.any()), w.list(w.str), w.list(w.num));
        w.dueJoin("Map of one and any", w.map(w.str, w.any()), w.map(w.str, w.num), w.map(w.str, w.sub));
        w.dueJoin("Map of any and one", w.map(w.any(), w.num), w.map(w.str, w.num), w.map(w.sub, w.num));
        w.dueJoin("RAW", x.plain(SEQ), x.plain(LIST), w.map(w.str, w.num));
        w.dueJoin("the greater array", x.array(w.str), x.array(w.sub), x.array(w.str));
        w.dueJoin("arrays", w.object, x.array(w.str), x.array(w.num));
        w.dueJoin("parameters", w.object, x.parameter(MAP, 0), x.parameter(MAP, 1));
        // of Num under P and Q, told later, P is the lesser number
        int p = x.declare(0), q = x.declare(0), one = x.declare(0), two = x.declare(0);
        x.parent(one, x.plain(q));
        x.parent(one, x.plain(p));
        x.parent(two, x.plain(p));
        x.parent(two, x.plain(q));
        w.dueJoin("the least number", x.plain(p), x.plain(one), x.plain(two));
        w.renew();
        x.formula(SUB, w.sub, w.a);
        x.formula(SUB, w.str, w.a);
        x.resolve();
        // two told; Str SUB Sub, Sub SUB Str; EQUAL a, Str, held against two; EQUAL b and c
        due("formulas of a join are counted", 2 + 2 + 1 + 2 + 2, x.count(6));
    }

    private static void joinsFull() {
        for (int room = 0; room < 6; room++) {
            InferReduce x = new InferReduce();
            int g = x.declare(1), h = x.declare(1), a = x.variable();
            x.parent(h, x.of(g, x.parameter(h, 0), 0));
            int s = x.of(h, x.plain(6), 0), t = x.of(g, x.plain(7), 0);
            fill(x, 500 - room);
            x.formula(SUB, s, a);
            x.formula(SUB, t, a);
            due("two bounds", 2, x.count(4));
            // G<6> for a formula of the join; plain G as a class of both; any; G of it; OBJECT is there
            due("a join with room for " + room, room < 4 ? NONE : 1, x.resolve());
            due("its state", room < 4 ? CAME_FULL : FINE, x.count(5));
            due("its formula", NONE, x.count(7));
            due("what was made stays", room < 4 ? 500 : 500 - room + 4, x.count(1));
        }
        InferReduce y = new InferReduce();
        for (int i = 0; i < 12; i++) y.variable();
        due("twelve, each by itself", 12, y.resolve());
        due("an instance", 12, y.instance(11));
    }

    private static void lowest(World w) {
        InferReduce x = w.x;
        w.yes("a below Str", SUB, w.a, w.str);
        due("resolved", 3, x.resolve());
        due("below one", w.str, x.instance(0));
        w.yes("a below Str", SUB, w.a, w.str);
        x.formula(SUB, w.a, w.sub);
        x.formula(SUB, w.a, w.object);
        x.resolve();
        due("the lowest", w.sub, x.instance(0));
        w.yes("a below Str", SUB, w.a, w.str);
        x.formula(SUB, w.a, w.num);
        due("none is the lowest", NONE, x.resolve());
        // b and c depend on themselves alone as a does, and a is the least
        w.dueCounts("none is the lowest", 2, CAME_FALSE, 4, NONE);
        due("nothing is settled", NONE, x.instance(1));
        w.yes("a below Str", SUB, w.a, w.str);
        x.formula(SUB, w.sub, w.a);
        x.resolve();
        due("above goes before below", w.sub, x.instance(0));
        w.yes("a below List<b>", SUB, w.a, w.list(w.b));
        x.formula(SUB, w.a, w.object);
        due("no proper one but OBJECT: it is not below List<b>", NONE, x.resolve());
        due("state", CAME_FALSE, x.count(5));
    }

    /** Where what the join comes to is there already, the classes' types of kind 0 need room all the same. */
    private static void joinsFullOfClasses() {
        for (int room = 0; room < 2; room++) {
            InferReduce x = new InferReduce();
            int g = x.declare(1), h = x.declare(1), k = x.declare(1), a = x.variable(), six = x.plain(6);
            x.parent(h, x.of(g, x.parameter(h, 0), 0));
            x.parent(k, x.of(g, x.parameter(k, 0), 0));
            int s = x.of(h, six, 0), t = x.of(k, six, 0), join = x.of(g, six, 0);
            fill(x, 500 - room);
            x.formula(SUB, s, a);
            x.formula(SUB, t, a);
            due("a join with room for " + room, room < 1 ? NONE : 1, x.resolve());
            due("its state", room < 1 ? CAME_FULL : FINE, x.count(5));
            due("its instance", room < 1 ? NONE : join, x.instance(0));
        }
        World w = world();
        InferReduce x = w.x;
        int deep = w.num;
        for (int d = 1; d < 18; d++) deep = x.array(deep);
        x.formula(SUB, w.list(w.upTo(deep)), w.a);
        x.formula(SUB, w.str, w.a);
        int types = x.count(1);
        due("what is above is too deep", NONE, x.resolve());
        due("its state", CAME_FULL, x.count(5));
        due("no type came of it", types, x.count(1));
    }

    /** A type that is only needed to see which one is the lowest. */
    private static void lowestFull() {
        for (int room = 0; room < 2; room++) {
            InferReduce x = new InferReduce();
            int top = x.declare(0), mid = x.declare(1), low = x.declare(1), a = x.variable();
            x.parent(mid, x.plain(top));
            x.parent(low, x.of(mid, x.parameter(low, 0), 0));
            int high = x.plain(top), t = x.of(low, x.plain(6), 0);
            fill(x, 500 - room);
            x.formula(SUB, a, high);
            x.formula(SUB, a, t);
            due("told", FINE, x.count(5));
            due("the lowest with room for " + room, room < 1 ? NONE : 1, x.resolve());
            due("state", room < 1 ? CAME_FULL : FINE, x.count(5));
            due("as it was resolved", NONE, x.count(7));
            due("instance", room < 1 ? NONE : t, x.instance(0));
        }
    }

    /** Where there is nothing to choose for one, others of its group are not chosen for. */
    private static void falseEndsChoosing(World w) {
        InferReduce x = w.x;
        w.yes("a below Str", SUB, w.a, w.str);
        x.formula(SUB, w.a, w.num);
        x.formula(SUB, w.a, w.list(w.b));
        x.formula(SUB, w.sub, w.b);
        x.formula(SUB, w.str, w.b);
        x.formula(EQUAL, w.c, w.str);
        int before = x.count(6), types = x.count(1);
        due("nothing for a", NONE, x.resolve());
        due("two formulas for a, none for b", before + 2, x.count(6));
        due("no type", types, x.count(1));
        due("false", CAME_FALSE, x.count(5));
        due("b is not settled", NONE, x.instance(1));
    }

    /** Twelve that depend on one another in a row, the way back being the longer one. */
    private static void longGroups(World w) {
        for (int way = 0; way < 2; way++) {
            InferReduce x = new InferReduce();
            int g = x.declare(1), o = x.plain(0);
            int[] v = new int[12];
            for (int i = 0; i < 12; i++) v[i] = x.variable();
            for (int i = 0; i < 11; i++) x.formula(SUB, x.of(g, v[way == 0 ? i : i + 1], 0), v[way == 0 ? i + 1 : i]);
            int before = x.count(4);
            x.resolve();
            due("the least of all twelve goes first", 0, x.bound(before, 1));
            due("as OBJECT", o, x.bound(before, 2));
        }
        InferReduce x = w.x;
        w.yes("a is Str", EQUAL, w.a, w.str);
        x.formula(SUB, w.list(w.c), w.b);
        x.variable();
        int before = x.count(4);
        due("b and c are one group, behind the settled one", 4, x.resolve());
        due("the fourth goes first", 3, x.bound(before, 1));
        due("then b", 1, x.bound(before + 1, 1));
    }

    private static void groups(World w) {
        InferReduce x = w.x;
        w.yes("a below b", SUB, w.a, w.b);
        due("resolved", 3, x.resolve());
        w.dueBound("the one that depends on the fewest goes first", 2, IS, 2, w.object, NONE);
        w.dueBound("then the least", 3, IS, 0, w.object, NONE);
        w.yes("c above List<a>", SUB, w.list(w.a), w.c);
        due("resolved", 3, x.resolve());
        w.dueBound("b alone goes first", 1, IS, 1, w.object, NONE);
        w.dueBound("a and c", 2, IS, 0, w.object, NONE);
        w.yes("a is List<b>", EQUAL, w.a, w.list(w.b));
        due("both are chosen for by the bounds before", NONE, x.resolve());
        // c alone first; then OBJECT for a, which is List<b>
        w.dueBound("c first", 1, IS, 2, w.object, NONE);
        w.dueBound("then a", 2, IS, 0, w.object, NONE);
        due("state", CAME_FALSE, x.count(5));
        due("as it was resolved", NONE, x.count(7));
        w.yes("a is Str", EQUAL, w.a, w.str);
        x.formula(SUB, w.b, w.a);
        x.formula(SUB, w.c, w.a);
        due("no way goes through a settled one", 3, x.resolve());
        due("b", w.str, x.instance(1));
        due("c", w.str, x.instance(2));
        int d;
        w.renew();
        d = x.variable();
        x.formula(SUB, w.list(w.a), w.b);
        x.formula(SUB, w.list(w.b), w.c);
        x.formula(SUB, w.sub, d);
        x.formula(EQUAL, w.b, w.object);
        due("b cuts them", 4, x.resolve());
        due("a, c and d alone, rising", 0, x.bound(firstOfResolving(x), 1));
        int e;
        w.renew();
        d = x.variable();
        e = x.variable();
        x.formula(SUB, w.list(w.b), w.a);
        x.formula(SUB, w.list(w.c), w.a);
        x.formula(SUB, d, w.list(e));
        int before = x.count(4);
        x.resolve();
        due("two depend on fewer than three", 3, x.bound(before, 1));
        w.renew();
        d = x.variable();
        e = x.variable();
        x.formula(SUB, w.a, w.list(w.b));
        x.formula(SUB, w.c, w.list(w.b));
        x.formula(SUB, d, w.list(e));
        before = x.count(4);
        x.resolve();
        due("through one that is in two bounds", 3, x.bound(before, 1));
    }

    private static int firstOfResolving(InferReduce x) {
        for (int i = 0; i < x.count(4); i++) if (x.bound(i, 3) == NONE) return i;
        return NONE;
    }

    private static void promise14() {
        World w = world();
        InferReduce x = w.x;
        due("nothing told", 0, x.clear());
        w.renew();
        x.formula(COMPATIBLE, x.plain(LIST), w.list(w.a));
        x.formula(SUB, w.str, w.a);
        x.formula(SUB, w.str, w.num);
        due("state 1", CAME_FALSE, x.count(5));
        int types = x.count(1);
        due("how many were told", 3, x.clear());
        int[] counts = {16, types, 0, 0, 0, 0, 0, NONE};
        for (int i = 0; i < counts.length; i++) due("cleared: count " + i, counts[i], x.count(i));
        due("types stay", 7, x.type(w.a, 0));
        due("no variable", OUTSIDE, x.instance(0));
        due("no bound", OUTSIDE, x.bound(0, 0));
        due("no formula", OUTSIDE, x.unchecked(0));
        due("none to judge", OUTSIDE, x.judge(0));
        due("once more", 0, x.clear());
        w.renew();
        due("told anew", 0, x.formula(SUB, w.a, w.num));
        w.dueCounts("old bounds are gone", 1, FINE, 1, NONE);
        due("not unchecked any more", 0, x.unchecked(0));
    }

    private static void promise15() {
        World w = world();
        InferReduce x = w.x;
        int[] wrong = {LOW, -1, 8, HIGH};
        for (int what : wrong) due("count " + what, OUTSIDE, x.count(what));
        due("classes", 16, x.count(0));
        int types = x.count(1);
        x.array(x.array(x.primitive(6)));
        due("types", types + 3, x.count(1));
        due("variables", 3, x.count(2));
        x.formula(SUB, w.a, w.b);
        x.formula(COMPATIBLE, w.sub, w.str);
        due("formulas", 2, x.count(3));
        due("bounds", 2, x.count(4));
        due("state", FINE, x.count(5));
        due("made less", 3, x.count(6));
        x.judge(1);
        due("not those of judge", 3, x.count(6));
        due("no formula of a state", NONE, x.count(7));
        x.formula(SUB, w.str, w.num);
        due("state 1", CAME_FALSE, x.count(5));
        due("the formula of it", 2, x.count(7));
        due("it is told", 3, x.count(3));
    }

    private static void promise16() {
        World w = world();
        InferReduce x = w.x;
        int listA = w.list(w.a), map = w.map(listA, w.str), up = w.upTo(listA), arrayOfInt = x.array(x.primitive(4));
        dueType(x, "plain", w.str, 0, STR, NONE, NONE, 1, 1);
        dueType(x, "RAW", x.plain(MAP), 0, MAP, NONE, NONE, 1, 1);
        dueType(x, "one argument", listA, 1, LIST, w.a, NONE, 2, 0);
        dueType(x, "two arguments", map, 1, MAP, listA, w.str, 3, 0);
        dueType(x, "two arguments, the second deeper", w.map(w.str, arrayOfInt), 1, MAP, w.str, arrayOfInt, 3, 1);
        dueType(x, "any", w.any(), 2, 0, NONE, NONE, 1, 1);
        dueType(x, "up to", up, 2, 1, listA, NONE, 3, 0);
        dueType(x, "down to", w.downTo(w.str), 2, 2, w.str, NONE, 2, 1);
        dueType(x, "parameter", x.parameter(MAP, 1), 3, MAP, 1, NONE, 1, 1);
        dueType(x, "array", x.array(map), 4, map, NONE, NONE, 4, 0);
        dueType(x, "array of int", arrayOfInt, 4, x.primitive(4), NONE, NONE, 2, 1);
        dueType(x, "primitive", x.primitive(7), 5, 7, NONE, NONE, 1, 1);
        dueType(x, "null", x.nothing(), 6, 0, NONE, NONE, 1, 1);
        dueType(x, "variable", w.b, 7, 1, NONE, NONE, 1, 0);
        int proper = w.map(w.any(), w.str), other = w.map(w.any(), w.a);
        dueType(x, "capture", x.type(x.above(proper, SEQ), 2), 8, proper, 0, NONE, 3, 1);
        dueType(x, "capture with a variable in its type", x.type(x.above(other, SEQ), 2), 8, other, 0, NONE, 3, 0);
        int[] wrongType = {LOW, -1, x.count(1), HIGH};
        for (int t : wrongType) for (int what = 0; what < 6; what++) due("type " + t, OUTSIDE, x.type(t, what));
        int[] wrongWhat = {LOW, -1, 6, HIGH};
        for (int what : wrongWhat) due("what " + what, OUTSIDE, x.type(w.str, what));
    }

    private static void promise17() {
        World w = world();
        InferReduce x = w.x;
        due("no bound", OUTSIDE, x.bound(0, 0));
        x.formula(SUB, w.str, w.str);
        x.formula(SUB, w.a, w.b);
        x.formula(EQUAL, w.c, w.str);
        w.dueBound("below", 0, BELOW, 0, w.b, 1);
        w.dueBound("above", 1, ABOVE, 1, w.a, 1);
        w.dueBound("is", 2, IS, 2, w.str, 2);
        x.formula(SUB, w.sub, w.a);
        w.dueBound("told last", 3, ABOVE, 0, w.sub, 3);
        w.dueBound("what came of holding is of the formula then told", 4, ABOVE, 1, w.sub, 3);
        x.resolve();
        w.dueBound("of resolving", 5, IS, 0, w.sub, NONE);
        int[] wrongBound = {LOW, -1, x.count(4), HIGH};
        for (int i : wrongBound) for (int what = 0; what < 4; what++) due("bound " + i, OUTSIDE, x.bound(i, what));
        int[] wrongWhat = {LOW, -1, 4, HIGH};
        for (int what : wrongWhat) due("what " + what, OUTSIDE, x.bound(0, what));
    }

    private static void promise18() {
        World w = world();
        InferReduce x = w.x;
        int[] wrong = {LOW, -1, 3, 12, HIGH};
        for (int v : wrong) due("instance " + v, OUTSIDE, x.instance(v));
        due("not settled", NONE, x.instance(0));
        x.formula(EQUAL, w.a, w.list(w.b));
        due("not proper", NONE, x.instance(0));
        x.formula(SUB, w.c, w.str);
        due("below is not is", NONE, x.instance(2));
        x.formula(EQUAL, w.b, w.num);
        due("settled by holding", w.list(w.num), x.instance(0));
        due("settled", w.num, x.instance(1));
        x.formula(EQUAL, w.b, w.str);
        due("state 1", CAME_FALSE, x.count(5));
        due("the first one", w.num, x.instance(1));
    }

    private static void promise19() {
        World w = world();
        InferReduce x = w.x;
        int any = w.any(), listStr = w.list(w.str);
        due("no type", OUTSIDE, x.above(-1, 0));
        due("no such type", OUTSIDE, x.above(x.count(1), 0));
        due("no class", OUTSIDE, x.above(w.str, -1));
        due("no such class", OUTSIDE, x.above(w.str, 16));
        due("a wildcard", OUTSIDE, x.above(any, 0));
        due("a class with bits beyond", OUTSIDE, x.above(w.str, 64 + STR));
        due("itself", w.str, x.above(w.str, STR));
        due("its parent", w.str, x.above(w.sub, STR));
        due("not below it", NONE, x.above(w.str, SUBSTR));
        due("itself with arguments", listStr, x.above(listStr, LIST));
        due("through two", w.seq(w.str), x.above(w.strs, SEQ));
        due("the argument in place", w.seq(w.num), x.above(w.map(w.num, w.str), SEQ));
        due("RAW, erased", x.plain(SEQ), x.above(x.plain(LIST), SEQ));
        int wildList = w.list(any), before = x.count(1);
        due("a wildcard as it stands", wildList, x.above(wildList, LIST));
        due("no type is made", before, x.count(1));
        due("its capture above", before + 1, x.above(wildList, SEQ));
        dueType(x, "the capture is made first", before, 8, wildList, 0, NONE);
        dueType(x, "then what is above", before + 1, 1, SEQ, before, NONE);
        int capture = x.type(x.above(w.list(w.upTo(w.strs)), SEQ), 2);
        due("of a capture: of its bound", w.seq(w.str), x.above(capture, SEQ));
        due("the bound itself", w.strs, x.above(capture, STRS));
        due("OBJECT of a capture", w.object, x.above(capture, 0));
        int low = x.type(x.above(w.list(w.downTo(w.strs)), SEQ), 2);
        due("not of one down to", NONE, x.above(low, SEQ));
        int[] others = {x.nothing(), x.array(w.str), w.a, x.parameter(MAP, 0), low, w.str, x.plain(5)};
        for (int t : others) due("OBJECT", w.object, x.above(t, 0));
        due("nothing of a primitive", NONE, x.above(x.primitive(4), 0));
        due("nor its box", NONE, x.above(x.primitive(4), 5));
        due("no class of a variable", NONE, x.above(w.a, STR));
        aboveOrder();
        aboveWithoutParents();
        aboveOneNumber();
        aboveFull();
    }

    /** Classes of an object in which no parent was told. */
    private static void aboveWithoutParents() {
        InferReduce x = new InferReduce();
        int plain = x.declare(0), one = x.declare(1), o = x.plain(0);
        int[] types = {x.plain(plain), x.plain(one), x.of(one, o, 0), x.of(one, x.wild(0, 0), 0), x.plain(4)};
        for (int t : types) {
            int before = x.count(1);
            due("itself", t, x.above(t, x.type(t, 1)));
            due("OBJECT", o, x.above(t, 0));
            for (int c = 1; c <= one; c++) if (c != x.type(t, 1)) due("not as " + c, NONE, x.above(t, c));
            due("no type is made", before, x.count(1));
        }
        x.formula(SUB, x.of(one, o, 0), x.plain(one));
        due("RAW is above it", FINE, x.count(5));
    }

    private static void aboveOrder() {
        InferReduce x = new InferReduce();
        int top = x.declare(1), side = x.declare(1), left = x.declare(1), right = x.declare(1), c = x.declare(2);
        x.parent(left, x.of(top, x.array(x.parameter(left, 0)), 0));
        x.parent(right, x.of(top, x.parameter(right, 0), 0));
        int p = x.parameter(c, 0), q = x.parameter(c, 1);
        x.parent(c, x.of(side, p, 0));
        x.parent(c, x.of(left, q, 0));
        x.parent(c, x.of(right, p, 0));
        int s = x.plain(1), t = x.plain(2), both = x.of(c, s, t), before = x.count(1);
        due("by the first parent that has it above", before + 2, x.above(both, top));
        dueType(x, "left of q", before, 1, left, t);
        dueType(x, "the array", before + 1, 4, t);
        dueType(x, "top", before + 2, 1, top, before + 1);
        due("of others no type is made", before + 3, x.count(1));
        due("RAW: each on the way is erased", before + 5, x.above(x.plain(c), top));
        dueType(x, "RAW left", before + 4, 0, left);
        dueType(x, "RAW top", before + 5, 0, top);
        due("OBJECT: nothing on the way is made", before + 6, x.above(both, 0));
        int late = x.declare(0);
        due("not above yet", NONE, x.above(x.plain(late), top));
        x.parent(late, x.of(side, s, 0));
        due("a parent of a parent that came later", 1, x.parent(side, x.of(top, x.parameter(side, 0), 0)));
        due("is above too", x.of(top, s, 0), x.above(x.plain(late), top));
        due("and comes by the first parent now", x.of(top, s, 0), x.above(both, top));
    }

    /** Types and classes have numbers of their own: here a type has that of the class above which it is looked for. */
    private static void aboveOneNumber() {
        InferReduce x = new InferReduce();
        int g = x.declare(1), h = x.declare(1);
        for (int c = 0; c < 9; c++) x.plain(c);
        int lone = x.plain(g), own = x.parameter(h, 0), array = x.array(own);
        due("the type and the class", h, own);
        x.parent(h, x.of(g, x.array(array), 0));
        due("its own parameter in arrays", x.of(g, x.array(x.array(lone)), 0), x.above(x.of(h, lone, 0), g));
    }

    private static void aboveFull() {
        InferReduce x = new InferReduce();
        int g = x.declare(1), h = x.declare(1);
        x.parent(h, x.of(g, x.array(x.parameter(h, 0)), 0));
        int deep = x.plain(0);
        for (int d = 0; d < 18; d++) deep = x.array(deep);
        int t = x.of(h, deep, 0), low = x.of(h, x.plain(6), 0);
        due("20 deep", 20, x.type(t, 4));
        due("too deep", FULL, x.above(t, g));
        due("the state stays", FINE, x.count(5));
        fill(x, 499);
        due("no room", FULL, x.above(low, g));
        due("but for what was made till then", 500, x.count(1));
        due("OUTSIDE is told first", OUTSIDE, x.above(low, 39));
        due("room for old ones", low, x.above(low, h));
    }

    private static void promise20() {
        World w = world();
        InferReduce x = w.x;
        due("none told", OUTSIDE, x.unchecked(0));
        x.formula(COMPATIBLE, x.plain(LIST), w.list(w.str));
        x.formula(COMPATIBLE, x.plain(LIST), w.seq(w.a));
        x.formula(COMPATIBLE, w.list(w.str), w.seq(w.str));
        x.formula(COMPATIBLE, x.plain(LIST), x.plain(SEQ));
        x.formula(COMPATIBLE, w.strs, w.seq(w.b));
        int[] want = {1, 1, 0, 0, 0};
        for (int i = 0; i < want.length; i++) due("unchecked " + i, want[i], x.unchecked(i));
        // 1 each for the unchecked; COMPATIBLE, SUB, CONTAINED, EQUAL; COMPATIBLE, SUB; four
        w.dueCounts("unchecked is true, no bound comes of it", 1, FINE, 1 + 1 + 4 + 2 + 4, NONE);
        int[] wrong = {LOW, -1, 5, HIGH};
        for (int i : wrong) due("unchecked " + i, OUTSIDE, x.unchecked(i));
        w.no("SUB is never unchecked", SUB, x.plain(LIST), w.list(w.str));
        due("it is not", 0, x.unchecked(0));
        int raw = x.declare(0);
        x.parent(raw, w.strs);
        w.yes("through parents", COMPATIBLE, x.plain(raw), w.seq(w.str));
        due("checked", 0, x.unchecked(0));
    }

    private static void promise21() {
        World w = world();
        InferReduce x = w.x;
        due("none told", OUTSIDE, x.judge(0));
        x.formula(SUB, w.sub, w.a);
        x.formula(COMPATIBLE, x.plain(LIST), w.list(w.b));
        x.formula(SUB, w.b, w.b);
        x.formula(COMPATIBLE, w.str, w.c);
        due("a variable is left", 0, x.judge(0));
        due("left, though the same", 0, x.judge(2));
        due("left on the right alone", 0, x.judge(3));
        int made = x.count(6);
        x.formula(EQUAL, w.a, w.str);
        due("settled", 1, x.judge(0));
        due("b is left", 0, x.judge(1));
        due("resolved", 3, x.resolve());
        int[] want = {1, 2, 1, 1, 1};
        for (int i = 0; i < want.length; i++) due("judge " + i, want[i], x.judge(i));
        int after = x.count(6);
        x.judge(0);
        due("its formulas are not counted", after, x.count(6));
        due("and others are", 1, after > made ? 1 : 0);
        int[] wrong = {LOW, -1, 5, HIGH};
        for (int i : wrong) due("judge " + i, OUTSIDE, x.judge(i));
        x.formula(SUB, w.str, w.num);
        due("a false one", 0, x.judge(5));
        due("in state 1, too", 1, x.judge(0));
        w.no("false under what is settled", EQUAL, w.map(w.a, w.str), w.map(w.str, w.num));
        due("Map<Str, Str> is not Map<Str, Num>", 0, x.judge(0));
        w.yes("List<a>, Seq<b>", SUB, w.list(w.a), w.seq(w.b));
        x.formula(EQUAL, w.a, w.sub);
        int types = x.count(1);
        due("List<Sub>, Seq<Sub>", 1, x.judge(0));
        due("both types were made for it, and stay", types + 2, x.count(1));
        judgeSorts();
        judgeFull();
    }

    /** A formula is judged as one of the sort as which it was told. */
    private static void judgeSorts() {
        World w = world();
        InferReduce x = w.x;
        // COMPATIBLE, SUB, CONTAINED, EQUAL of each two
        int[][] pairs = {{w.sub, w.str}, {w.str, w.str}, {x.plain(LIST), w.list(w.str)}, {x.primitive(4), x.plain(5)},
            {w.str, w.sub}, {x.nothing(), w.str}, {x.primitive(1), x.primitive(5)}};
        int[][] want = {{1, 1, 0, 0}, {1, 1, 1, 1}, {2, 0, 0, 0}, {1, 0, 0, 0}, {0, 0, 0, 0}, {1, 1, 0, 0}, {1, 0, 0, 0}};
        for (int i = 0; i < pairs.length; i++) {
            for (int sort = 0; sort < 4; sort++) {
                w.renew();
                due("told", 0, x.formula(sort, pairs[i][0], pairs[i][1]));
                due("pair " + i + " judged as of sort " + sort, want[i][sort], x.judge(0));
                due("it is in the state, too", want[i][sort] > 0 ? FINE : CAME_FALSE, x.count(5));
                due("unchecked", want[i][sort] == 2 ? 1 : 0, x.unchecked(0));
            }
        }
        w.yes("a wildcard is judged, too", CONTAINED, w.upTo(w.a), w.upTo(w.str));
        due("not settled", 0, x.judge(0));
        x.formula(EQUAL, w.a, w.sub);
        due("up to Sub in up to Str", 1, x.judge(0));
        w.no("a wildcard in no wildcard", CONTAINED, w.any(), w.object);
        due("judged", 0, x.judge(0));
    }

    private static void judgeFull() {
        InferReduce x = new InferReduce();
        int g = x.declare(1), a = x.variable(), o = x.plain(0), t = x.of(g, a, 0);
        due("told", 0, x.formula(SUB, t, o));
        due("told", 1, x.formula(EQUAL, a, o));
        fill(x, 500);
        due("List<Object> has no room", FULL, x.of(g, o, 0));
        due("judge", FULL, x.judge(0));
        due("the state stays", FINE, x.count(5));
        due("another one", 1, x.judge(1));
        InferReduce y = new InferReduce();
        int b = y.variable(), deep = y.plain(0), over = b;
        for (int d = 0; d < 18; d++) deep = y.array(deep);
        for (int d = 0; d < 2; d++) over = y.array(over);
        y.formula(SUB, over, y.plain(0));
        y.formula(EQUAL, b, deep);
        due("too deep", FULL, y.judge(0));
        y.clear();
        y.variable();
        y.formula(SUB, y.nothing(), over);
        y.formula(EQUAL, b, deep);
        due("too deep on the right", FULL, y.judge(0));
        y.clear();
        y.variable();
        y.formula(SUB, b, y.array(y.primitive(4)));
        due("the left one alone is left", 0, y.judge(0));
    }

    /** The calls that README.md shows, so that it stays true. */
    private static void asInReadme() {
        InferReduce x = new InferReduce();
        int list = x.declare(1);
        int integer = x.plain(5);
        int a = x.variable();
        due("README: told", 0, x.formula(SUB, x.of(list, integer, 0), x.of(list, a, 0)));
        due("README: settled", 1, x.resolve());
        due("README: its type", integer, x.instance(0));
        due("README: judged", 1, x.judge(0));
    }

    public static void main(String[] args) {
        asInReadme();
        promise1();
        promise2();
        promise3();
        promise4();
        promise5();
        promise6();
        promise7();
        promise8();
        promise9();
        promise10();
        promise11();
        promise12();
        promise13();
        promise14();
        promise15();
        promise16();
        promise17();
        promise18();
        promise19();
        promise20();
        promise21();
        Check.end();
    }
}
