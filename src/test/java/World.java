/**
 * An object with a few classes told, and what tests ask of it most often. Tests extend this class, for the
 * document's numbers.
 */
class World {
    static final int NONE = -1, OUTSIDE = -2, FULL = -3;
    static final int COMPATIBLE = 0, SUB = 1, CONTAINED = 2, EQUAL = 3;
    static final int IS = 0, BELOW = 1, ABOVE = 2;
    static final int FINE = 0, CAME_FALSE = 1, CAME_FULL = 2;
    static final int LOW = Integer.MIN_VALUE, HIGH = Integer.MAX_VALUE;

    // Seq<T>; List<T> under Seq<T>; Map<K, V> under Seq<K>; Str; Sub under Str; Num; Strs under List<Str>
    static final int SEQ = 9, LIST = 10, MAP = 11, STR = 12, SUBSTR = 13, NUM = 14, STRS = 15;

    final InferReduce x = new InferReduce();
    int object, str, sub, num, strs, a, b, c;

    static void due(String call, long want, long got) {
        Check.due(call, want, got);
    }

    /** A world whose types' numbers are not looked at. */
    static World world() {
        World w = new World();
        InferReduce x = w.x;
        int[] parameters = {1, 1, 2, 0, 0, 0, 0};
        for (int n : parameters) x.declare(n);
        w.object = x.plain(0);
        w.str = x.plain(STR);
        w.sub = x.plain(SUBSTR);
        w.num = x.plain(NUM);
        w.strs = x.plain(STRS);
        due("List under Seq", 1, x.parent(LIST, w.seq(x.parameter(LIST, 0))));
        due("Map under Seq", 1, x.parent(MAP, w.seq(x.parameter(MAP, 0))));
        due("Sub under Str", 1, x.parent(SUBSTR, w.str));
        due("Strs under List<Str>", 1, x.parent(STRS, w.list(w.str)));
        w.renew();
        return w;
    }

    /** Clears, and makes the variables a, b, c anew. */
    void renew() {
        x.clear();
        a = x.variable();
        b = x.variable();
        c = x.variable();
    }

    int seq(int t) { return x.of(SEQ, t, 0); }
    int list(int t) { return x.of(LIST, t, 0); }
    int map(int s, int t) { return x.of(MAP, s, t); }
    int any() { return x.wild(0, 0); }
    int upTo(int t) { return x.wild(1, t); }
    int downTo(int t) { return x.wild(2, t); }

    /** The state that one formula alone leads to. */
    void leads(String what, int state, int sort, int s, int t) {
        renew();
        due(what + ": told", 0, x.formula(sort, s, t));
        due(what, state, x.count(5));
    }

    void yes(String what, int sort, int s, int t) { leads(what, FINE, sort, s, t); }
    void no(String what, int sort, int s, int t) { leads(what, CAME_FALSE, sort, s, t); }

    void dueBound(String what, int i, int sort, int variable, int type, int from) {
        due(what + ": sort of bound " + i, sort, x.bound(i, 0));
        due(what + ": variable of bound " + i, variable, x.bound(i, 1));
        due(what + ": type of bound " + i, type, x.bound(i, 2));
        due(what + ": origin of bound " + i, from, x.bound(i, 3));
    }

    void dueCounts(String what, int bounds, int state, int made, int at) {
        due(what + ": bounds", bounds, x.count(4));
        due(what + ": state", state, x.count(5));
        due(what + ": made less", made, x.count(6));
        due(what + ": the formula of the state", at, x.count(7));
    }

    void dueJoin(String what, int want, int... types) {
        renew();
        for (int t : types) x.formula(SUB, t, a);
        due(what + ": resolved", 3, x.resolve());
        due(what, want, x.instance(0));
    }

    static void dueType(InferReduce x, String what, int t, int... want) {
        for (int i = 0; i < want.length; i++) due(what + ": type(" + t + ", " + i + ")", want[i], x.type(t, i));
    }

    /** Makes types till there are so many; classes 6 and 7 are not touched, nor primitives and null. */
    static void fill(InferReduce x, int most) {
        for (int p = 0; p < 6; p++) {
            int t = x.plain(p);
            for (int d = 0; d < 19; d++) {
                t = x.array(t);
                for (int sort = 1; sort < 3 && x.count(1) < most; sort++) x.wild(sort, t);
                if (x.count(1) >= most) return;
            }
        }
        int cls = x.declare(1);
        int from = x.count(1);
        for (int t = 0; t < from && x.count(1) < most; t++) x.of(cls, t, 0);
        due("the types that were wanted", most, x.count(1));
    }
}
