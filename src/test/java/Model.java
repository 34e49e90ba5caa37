import java.util.ArrayList;
import java.util.Arrays;
import java.util.List;
import java.util.TreeSet;

/**
 * The document once more, written as plainly as can be (recursion, exceptions, no short cuts), so that
 * long random runs have something to be held against. Method names are those of the document's face.
 */
final class Model {
    static final int NONE = -1, OUTSIDE = -2, FULL = -3;

    private static final class NoRoom extends RuntimeException {
        private static final long serialVersionUID = 1L;
        NoRoom() { super(null, null, false, false); }
    }

    private static final class CameFalse extends RuntimeException {
        private static final long serialVersionUID = 1L;
        CameFalse() { super(null, null, false, false); }
    }

    record T(int kind, int a, int b, int c) { }
    record F(int sort, int s, int t) { }
    record B(int sort, int v, int t) { }

    final List<Integer> params = new ArrayList<>();
    final List<List<Integer>> parents = new ArrayList<>();
    final List<T> types = new ArrayList<>();
    int variables;
    final List<F> told = new ArrayList<>();
    final List<Boolean> loose = new ArrayList<>();
    final List<B> bounds = new ArrayList<>();
    final List<Integer> origins = new ArrayList<>();
    int held, state, stateAt = NONE, made, inCall, origin;
    boolean unchecked;

    Model() {
        for (int i = 0; i < 9; i++) { params.add(0); parents.add(new ArrayList<>()); }
    }

    boolean isType(int t) { return t >= 0 && t < types.size(); }
    boolean isClass(int c) { return c >= 0 && c < params.size(); }
    int kind(int t) { return types.get(t).kind; }
    int a(int t) { return types.get(t).a; }
    int b(int t) { return types.get(t).b; }
    int c(int t) { return types.get(t).c; }

    List<Integer> parts(T t) {
        switch (t.kind) {
            case 1: return t.c == NONE ? List.of(t.b) : List.of(t.b, t.c);
            case 2: return t.a == 0 ? List.of() : List.of(t.b);
            case 4: case 8: return List.of(t.a);
            default: return List.of();
        }
    }

    int depth(T t) {
        int d = 0;
        for (int p : parts(t)) d = Math.max(d, depthAt(p));
        return d + 1;
    }

    final List<Integer> depths = new ArrayList<>();
    final List<TreeSet<Integer>> vars = new ArrayList<>();
    int depthAt(int t) { return depths.get(t); }

    int make(int kind, int a, int b, int c) {
        T t = new T(kind, a, b, c);
        int i = types.indexOf(t);
        if (i >= 0) return i;
        if (types.size() == 500 || depth(t) > 20) throw new NoRoom();
        depths.add(depth(t));
        TreeSet<Integer> v = new TreeSet<>();
        if (kind == 7) v.add(a);
        for (int p : parts(t)) v.addAll(vars.get(p));
        vars.add(v);
        types.add(t);
        return types.size() - 1;
    }

    int tryMake(int kind, int a, int b, int c) {
        try { return make(kind, a, b, c); } catch (NoRoom e) { return FULL; }
    }

    boolean proper(int t) { return vars.get(t).isEmpty(); }
    int object() { return make(0, 0, NONE, NONE); }

    int declare(int n) {
        if (n < 0 || n > 2) return OUTSIDE;
        if (params.size() == 40) return FULL;
        params.add(n);
        parents.add(new ArrayList<>());
        return params.size() - 1;
    }

    /** Whether a type may be in a parent of a class, or be one, but for what the outermost alone must be. */
    boolean tellable(int t, int cls) {
        switch (kind(t)) {
            case 0: case 1: if (a(t) >= cls) return false; break;
            case 3: return a(t) == cls;
            case 7: case 8: return false;
            default: break;
        }
        for (int p : parts(types.get(t))) if (!tellable(p, cls)) return false;
        return true;
    }

    int parent(int cls, int type) {
        if (!isClass(cls) || cls < 9 || !isType(type) || kind(type) > 1) return OUTSIDE;
        if (a(type) == 0 || !tellable(type, cls)) return OUTSIDE;
        if (kind(type) == 0 && params.get(a(type)) > 0) return OUTSIDE;
        if (kind(type) == 1) for (int p : parts(types.get(type))) if (kind(p) == 2) return OUTSIDE;
        if (parents.get(cls).size() == 3) return FULL;
        parents.get(cls).add(type);
        return parents.get(cls).size();
    }

    int plain(int cls) { return isClass(cls) ? tryMake(0, cls, NONE, NONE) : OUTSIDE; }

    boolean argument(int t) { return isType(t) && kind(t) != 5 && kind(t) != 6; }

    int of(int cls, int a, int b) {
        if (!isClass(cls) || params.get(cls) == 0 || !argument(a)) return OUTSIDE;
        if (params.get(cls) == 2 && !argument(b)) return OUTSIDE;
        return tryMake(1, cls, a, params.get(cls) == 2 ? b : NONE);
    }

    int wild(int sort, int bound) {
        if (sort < 0 || sort > 2) return OUTSIDE;
        if (sort > 0 && (!argument(bound) || kind(bound) == 2)) return OUTSIDE;
        return tryMake(2, sort, sort == 0 ? NONE : bound, NONE);
    }

    int parameter(int cls, int i) {
        if (!isClass(cls) || i < 0 || i >= params.get(cls)) return OUTSIDE;
        return tryMake(3, cls, i, NONE);
    }

    int array(int t) { return !isType(t) || kind(t) == 2 || kind(t) == 6 ? OUTSIDE : tryMake(4, t, NONE, NONE); }
    int primitive(int k) { return k < 0 || k > 7 ? OUTSIDE : tryMake(5, k, NONE, NONE); }
    int nothing() { return tryMake(6, 0, NONE, NONE); }

    int variable() {
        if (variables == 12) return FULL;
        int t = tryMake(7, variables, NONE, NONE);
        if (t >= 0) variables++;
        return t;
    }

    boolean hasAbove(int c, int g) {
        if (c == g) return true;
        for (int p : parents.get(c)) if (hasAbove(a(p), g)) return true;
        return false;
    }

    int up(int t, int g) {
        int found = upward(t, g);
        if (found == NONE && g == 0 && kind(t) != 5) return object();
        return found;
    }

    private int upward(int t, int g) {
        if (kind(t) == 8) {
            T w = types.get(parts(types.get(a(t))).get(b(t)));
            return w.a == 1 ? upward(w.b, g) : NONE;
        }
        if (kind(t) > 1) return NONE;
        if (a(t) == g) return t;
        for (int p : parents.get(a(t))) {
            if (!hasAbove(a(p), g)) continue;
            int next;
            if (kind(t) == 1) next = withArguments(p, t);
            else next = params.get(a(t)) > 0 ? make(0, a(p), NONE, NONE) : p;
            int found = upward(next, g);
            if (found != NONE) return found;
        }
        return NONE;
    }

    interface Leaf { int at(int t); }

    private int exchange(int t, Leaf leaf, boolean[] seen, int[] memo) {
        if (seen[t]) return memo[t];
        T x = types.get(t);
        int r;
        switch (x.kind) {
            case 1: {
                int p = exchange(x.b, leaf, seen, memo);
                int q = x.c == NONE ? NONE : exchange(x.c, leaf, seen, memo);
                r = make(1, x.a, p, q);
                break;
            }
            case 2: r = x.a == 0 ? t : make(2, x.a, exchange(x.b, leaf, seen, memo), NONE); break;
            case 4: case 8: r = make(x.kind, exchange(x.a, leaf, seen, memo), x.b, NONE); break;
            default: r = leaf.at(t);
        }
        seen[t] = true;
        memo[t] = r;
        return r;
    }

    private int exchange(int t, Leaf leaf) { return exchange(t, leaf, new boolean[500], new int[500]); }

    private int withArguments(int p, int t) {
        return exchange(p, leaf -> {
            if (kind(leaf) != 3) return leaf;
            int argument = parts(types.get(t)).get(b(leaf));
            return kind(argument) == 2 ? make(8, t, b(leaf), NONE) : argument;
        });
    }

    int above(int t, int cls) {
        if (!isType(t) || kind(t) == 2 || !isClass(cls)) return OUTSIDE;
        try { return up(t, cls); } catch (NoRoom e) { return FULL; }
    }

    void bind(int sort, int v, int t) {
        B x = new B(sort, a(v), t);
        if (bounds.contains(x)) return;
        if (bounds.size() == 200) throw new NoRoom();
        bounds.add(x);
        origins.add(origin);
    }

    static final boolean[][] WIDENS = new boolean[8][8];
    static {
        int[][] w = {{}, {2, 4, 5, 6, 7}, {4, 5, 6, 7}, {4, 5, 6, 7}, {5, 6, 7}, {6, 7}, {7}, {}};
        for (int i = 0; i < 8; i++) { WIDENS[i][i] = true; for (int j : w[i]) WIDENS[i][j] = true; }
    }

    int box(int t) { return make(0, a(t) + 1, NONE, NONE); }
    void need(boolean holds) { if (!holds) throw new CameFalse(); }

    void less(int sort, int s, int t, int level) {
        if (level > 60) throw new NoRoom();
        if (inCall == 20000) throw new NoRoom();
        inCall++;
        made++;
        if (sort == 0) compatible(s, t, level + 1);
        else if (sort == 1) sub(s, t, level + 1);
        else if (sort == 2) contained(s, t, level + 1);
        else equal(s, t, level + 1);
    }

    void compatible(int s, int t, int n) {
        boolean p = kind(s) == 5, q = kind(t) == 5;
        if (proper(s) && proper(t)) {
            if (p && q) { need(WIDENS[a(s)][a(t)]); return; }
            if (p) { less(1, box(s), t, n); return; }
            if (q) { need(kind(s) == 0 && a(s) >= 1 && a(s) <= 8 && WIDENS[a(s) - 1][a(t)]); return; }
        } else if (p) { less(0, box(s), t, n); return; }
        else if (q) { less(3, s, box(t), n); return; }
        if (kind(t) == 1) {
            int u = up(s, a(t));
            if (u != NONE && kind(u) == 0) { unchecked = true; return; }
        }
        less(1, s, t, n);
    }

    void sub(int s, int t, int n) {
        if (s == t) return;
        if (kind(s) == 6) { need(kind(t) != 5); return; }
        need(kind(t) != 6 && kind(s) != 5 && kind(t) != 5);
        if (kind(s) == 7 || kind(t) == 7) {
            if (kind(s) == 7) bind(1, s, t);
            if (kind(t) == 7) bind(2, t, s);
            return;
        }
        if (kind(t) == 0 && a(t) == 0) return;
        switch (kind(t)) {
            case 0: need(up(s, a(t)) != NONE); return;
            case 1: {
                int u = up(s, a(t));
                need(u != NONE && kind(u) == 1);
                less(2, b(u), b(t), n);
                if (c(t) != NONE) less(2, c(u), c(t), n);
                return;
            }
            case 4:
                need(kind(s) == 4);
                if (kind(a(s)) == 5 || kind(a(t)) == 5) need(a(s) == a(t));
                else less(1, a(s), a(t), n);
                return;
            case 8: {
                T w = types.get(parts(types.get(a(t))).get(b(t)));
                need(w.a == 2);
                less(1, s, w.b, n);
                return;
            }
            default: need(false);
        }
    }

    void contained(int s, int t, int n) {
        boolean w = kind(s) == 2;
        if (kind(t) != 2) { need(!w); less(3, s, t, n); return; }
        if (a(t) == 0) return;
        if (a(t) == 1) {
            if (!w) less(1, s, b(t), n);
            else if (a(s) == 1) less(1, b(s), b(t), n);
            else if (a(s) == 0) less(1, object(), b(t), n);
            else less(3, object(), b(t), n);
            return;
        }
        if (!w) less(1, b(t), s, n);
        else { need(a(s) == 2); less(1, b(t), b(s), n); }
    }

    void equal(int s, int t, int n) {
        if (s == t) return;
        need(!(proper(s) && proper(t)));
        need(kind(s) != 5 && kind(s) != 6 && kind(t) != 5 && kind(t) != 6);
        if (kind(s) == 7) { bind(0, s, t); if (kind(t) == 7) bind(0, t, s); return; }
        if (kind(t) == 7) { bind(0, t, s); return; }
        need(kind(s) == kind(t));
        switch (kind(s)) {
            case 1:
                need(a(s) == a(t));
                less(3, b(s), b(t), n);
                if (c(s) != NONE) less(3, c(s), c(t), n);
                return;
            case 4: less(3, a(s), a(t), n); return;
            case 8: need(b(s) == b(t)); less(3, a(s), a(t), n); return;
            case 2: need(a(s) == a(t)); less(3, b(s), b(t), n); return;
            default: need(false);
        }
    }

    int variableType(int v) { return types.indexOf(new T(7, v, NONE, NONE)); }

    void hold() {
        for (; held < bounds.size(); held++) {
            for (int e = 0; e < held; e++) {
                pair(bounds.get(e), bounds.get(held), true);
                pair(bounds.get(held), bounds.get(e), false);
            }
        }
    }

    void pair(B p, B q, boolean firstOrder) {
        if (p.v == q.v) {
            if (p.sort == 0 && q.sort == 0 && firstOrder) less(3, p.t, q.t, 1);
            if (p.sort == 0 && q.sort == 1) less(1, p.t, q.t, 1);
            if (p.sort == 0 && q.sort == 2) less(1, q.t, p.t, 1);
            if (p.sort == 2 && q.sort == 1) less(1, p.t, q.t, 1);
            if (p.sort == 1 && q.sort == 1 && firstOrder) share(p.t, q.t);
            return;
        }
        if (p.sort != 0 || !proper(p.t) || !vars.get(q.t).contains(p.v)) return;
        int w = exchange(q.t, leaf -> kind(leaf) == 7 && a(leaf) == p.v ? p.t : leaf);
        int y = variableType(q.v);
        if (q.sort == 0) less(3, y, w, 1);
        else if (q.sort == 1) less(1, y, w, 1);
        else less(1, w, y, 1);
    }

    void share(int u, int v) {
        for (int g = 0; g < params.size(); g++) {
            if (params.get(g) == 0) continue;
            int x = up(u, g);
            if (x == NONE || kind(x) != 1) continue;
            int y = up(v, g);
            if (y == NONE || kind(y) != 1) continue;
            if (kind(b(x)) != 2 && kind(b(y)) != 2) less(3, b(x), b(y), 1);
            if (c(x) != NONE && kind(c(x)) != 2 && kind(c(y)) != 2) less(3, c(x), c(y), 1);
        }
    }

    boolean fits(int sort, int t) {
        if (!isType(t) || (kind(t) == 2 && sort != 2)) return false;
        return vars.get(t).isEmpty() || vars.get(t).last() < variables;
    }

    void begin(int from) { inCall = 0; origin = from; unchecked = false; }

    int formula(int sort, int s, int t) {
        if (sort < 0 || sort > 3 || !fits(sort, s) || !fits(sort, t)) return OUTSIDE;
        if (state != 0 || told.size() == 60) return NONE;
        int n = told.size();
        told.add(new F(sort, s, t));
        begin(n);
        try { less(sort, s, t, 1); hold(); }
        catch (NoRoom e) { state = 2; stateAt = n; }
        catch (CameFalse e) { state = 1; stateAt = n; }
        loose.add(unchecked);
        return n;
    }

    int instance(int v) {
        if (v < 0 || v >= variables) return OUTSIDE;
        for (B x : bounds) if (x.v == v && x.sort == 0 && proper(x.t)) return x.t;
        return NONE;
    }

    TreeSet<Integer> depends(int v) {
        TreeSet<Integer> all = new TreeSet<>(List.of(v));
        for (boolean grew = true; grew;) {
            grew = false;
            for (B x : bounds) {
                if (instance(x.v) != NONE) continue;
                for (int w : vars.get(x.t)) {
                    if (instance(w) != NONE) continue;
                    if (all.contains(x.v)) grew |= all.add(w);
                    if (all.contains(w)) grew |= all.add(x.v);
                }
            }
        }
        return all;
    }

    int resolve() {
        if (state != 0) return NONE;
        begin(NONE);
        try {
            while (true) {
                TreeSet<Integer> best = null;
                for (int v = 0; v < variables; v++) {
                    if (instance(v) != NONE) continue;
                    TreeSet<Integer> d = depends(v);
                    if (best == null || d.size() < best.size()) best = d;
                }
                if (best == null) return variables;
                List<Integer> chosen = new ArrayList<>();
                for (int v : best) chosen.add(choose(v));
                int i = 0;
                for (int v : best) { less(3, variableType(v), chosen.get(i++), 1); hold(); }
            }
        } catch (NoRoom e) { state = 2; stateAt = NONE; }
        catch (CameFalse e) { state = 1; stateAt = NONE; }
        return NONE;
    }

    List<Integer> near(int v, int sort) {
        List<Integer> r = new ArrayList<>();
        for (B x : bounds) if (x.v == v && x.sort == sort && proper(x.t)) r.add(x.t);
        return r;
    }

    boolean comesTrue(int s, int t) {
        try { less(1, s, t, 1); return true; } catch (CameFalse e) { return false; }
    }

    int choose(int v) {
        List<Integer> over = near(v, 2), under = near(v, 1);
        if (!over.isEmpty()) return join(over);
        if (under.isEmpty()) return object();
        for (int x : under) {
            boolean all = true;
            for (int y : under) if (all && y != x) all = comesTrue(x, y);
            if (all) return x;
        }
        throw new CameFalse();
    }

    int join(List<Integer> over) {
        for (int x : over) {
            boolean all = true;
            for (int y : over) if (all && y != x) all = comesTrue(y, x);
            if (all) return x;
        }
        List<Integer> common = new ArrayList<>();
        for (int g = 0; g < params.size(); g++) {
            boolean all = true;
            for (int x : over) all = all && up(x, g) != NONE;
            if (all) common.add(g);
        }
        for (int g : common) {
            boolean least = true;
            for (int h : common) if (least && h != g && up(make(0, h, NONE, NONE), g) != NONE) least = false;
            if (!least) continue;
            if (params.get(g) == 0) return make(0, g, NONE, NONE);
            List<T> ups = new ArrayList<>();
            for (int x : over) ups.add(types.get(up(x, g)));
            for (T x : ups) if (x.kind != 1) return make(0, g, NONE, NONE);
            int p = ups.get(0).b, q = ups.get(0).c;
            boolean sameP = true, sameQ = true;
            for (T x : ups) { sameP &= x.b == p; sameQ &= x.c == q; }
            return make(1, g, sameP ? p : make(2, 0, NONE, NONE), sameQ ? q : make(2, 0, NONE, NONE));
        }
        throw new IllegalStateException("no class is least");
    }

    int clear() {
        int n = told.size();
        variables = 0;
        told.clear();
        loose.clear();
        bounds.clear();
        origins.clear();
        held = 0;
        state = 0;
        stateAt = NONE;
        made = 0;
        return n;
    }

    int count(int what) {
        int[] all = {params.size(), types.size(), variables, told.size(), bounds.size(), state, made, stateAt};
        return what < 0 || what >= all.length ? OUTSIDE : all[what];
    }

    int type(int t, int what) {
        if (!isType(t) || what < 0 || what > 5) return OUTSIDE;
        return new int[] {kind(t), a(t), b(t), c(t), depthAt(t), proper(t) ? 1 : 0}[what];
    }

    int bound(int i, int what) {
        if (i < 0 || i >= bounds.size() || what < 0 || what > 3) return OUTSIDE;
        B x = bounds.get(i);
        return new int[] {x.sort, x.v, x.t, origins.get(i)}[what];
    }

    int unchecked(int i) { return i < 0 || i >= told.size() ? OUTSIDE : loose.get(i) ? 1 : 0; }

    int judge(int i) {
        if (i < 0 || i >= told.size()) return OUTSIDE;
        F f = told.get(i);
        int[] put = new int[12];
        Arrays.fill(put, NONE);
        for (int v = 0; v < variables; v++) put[v] = instance(v);
        int before = made;
        begin(NONE);
        try {
            Leaf leaf = x -> kind(x) == 7 && put[a(x)] != NONE ? put[a(x)] : x;
            int s = exchange(f.s, leaf), t = exchange(f.t, leaf);
            if (!proper(s) || !proper(t)) return 0;
            less(f.sort, s, t, 1);
            return unchecked ? 2 : 1;
        } catch (NoRoom e) { return FULL; }
        catch (CameFalse e) { return 0; }
        finally { made = before; }
    }
}
