import java.util.Arrays;

/**
 * Types with classes, parameters and wildcards; formulas over them that are made less to bounds;
 * bounds that are held against one another; variables that are resolved by them.
 */
public final class InferReduce {
    public static final int NONE = -1, OUTSIDE = -2, FULL = -3;

    private static final int MOST_CLASSES = 40, MOST_PARAMETERS = 2, MOST_PARENTS = 3;
    private static final int MOST_TYPES = 500, MOST_DEPTH = 20, MOST_VARIABLES = 12;
    private static final int MOST_FORMULAS = 60, MOST_BOUNDS = 200;
    private static final int MOST_WITHIN = 60, MOST_IN_CALL = 20000;

    private static final int OBJECT = 0, FIRST_BOX = 1, FIRST_DECLARED = 9, PRIMITIVES = 8;
    private static final int BOOLEAN = 0, CHAR = 3;

    // kinds of types
    private static final int BARE = 0, ARGUED = 1, WILD = 2, PARAMETER = 3, ARRAY = 4;
    private static final int PRIMITIVE = 5, NOTHING = 6, VARIABLE = 7, CAPTURE = 8;

    // sorts of wildcards
    private static final int ANY = 0, UP_TO = 1, DOWN_TO = 2;

    // sorts of formulas
    private static final int COMPATIBLE = 0, SUB = 1, CONTAINED = 2, EQUAL = 3;

    // sorts of bounds
    private static final int IS = 0, BELOW = 1, ABOVE = 2;

    // what making less comes to; the third outcome is the public FULL
    private static final int FALSE = 0, TRUE = 1;

    private static final int STATE_FINE = 0, STATE_FALSE = 1, STATE_FULL = 2;

    private final Classes classes;
    private final Types types;
    private final Bounds bounds;
    private final Reducer reducer;
    private final Holder holder;
    private final Resolver resolver;
    private final Told told;
    private final int[] variableTypes;
    private int variables;
    private int state;
    private int stateAt;

    public InferReduce() {
        classes = new Classes();
        types = new Types();
        bounds = new Bounds();
        variableTypes = new int[MOST_VARIABLES];
        Exchange exchange = new Exchange(types);
        reducer = new Reducer(classes, types, bounds, exchange);
        holder = new Holder(classes, types, bounds, exchange, reducer, variableTypes);
        resolver = new Resolver(classes, types, bounds, reducer);
        told = new Told();
        stateAt = NONE;
    }

    public int declare(int parameters) {
        if (parameters < 0 || parameters > MOST_PARAMETERS) return OUTSIDE;
        return classes.add(parameters);
    }

    public int parent(int cls, int type) {
        if (cls < FIRST_DECLARED || !classes.has(cls) || !canBeParent(cls, type)) return OUTSIDE;
        return classes.addParent(cls, type, types.firstOf(type));
    }

    public int plain(int cls) {
        if (!classes.has(cls)) return OUTSIDE;
        return types.make(BARE, cls, NONE, NONE);
    }

    public int of(int cls, int a, int b) {
        int parameters = classes.parametersOf(cls);
        if (parameters < 1 || !canBeArgument(a)) return OUTSIDE;
        if (parameters == 1) return types.make(ARGUED, cls, a, NONE);
        if (!canBeArgument(b)) return OUTSIDE;
        return types.make(ARGUED, cls, a, b);
    }

    public int wild(int sort, int bound) {
        if (sort < ANY || sort > DOWN_TO) return OUTSIDE;
        if (sort == ANY) return types.make(WILD, ANY, NONE, NONE);
        if (!canBeArgument(bound) || types.kindOf(bound) == WILD) return OUTSIDE;
        return types.make(WILD, sort, bound, NONE);
    }

    public int parameter(int cls, int i) {
        if (i < 0 || i >= classes.parametersOf(cls)) return OUTSIDE;
        return types.make(PARAMETER, cls, i, NONE);
    }

    public int array(int type) {
        if (!types.has(type)) return OUTSIDE;
        int kind = types.kindOf(type);
        if (kind == WILD || kind == NOTHING) return OUTSIDE;
        return types.make(ARRAY, type, NONE, NONE);
    }

    public int primitive(int k) {
        if (k < 0 || k >= PRIMITIVES) return OUTSIDE;
        return types.make(PRIMITIVE, k, NONE, NONE);
    }

    public int nothing() {
        return types.make(NOTHING, 0, NONE, NONE);
    }

    public int variable() {
        if (variables < 0 || variables >= MOST_VARIABLES) return FULL;
        int type = types.make(VARIABLE, variables, NONE, NONE);
        if (type < 0) return FULL;
        variableTypes[variables] = type;
        variables++;
        return type;
    }

    public int formula(int sort, int s, int t) {
        if (sort < COMPATIBLE || sort > EQUAL) return OUTSIDE;
        if (!canBeTold(sort, s) || !canBeTold(sort, t)) return OUTSIDE;
        if (state != STATE_FINE || !told.hasRoom()) return NONE;
        int number = told.add(sort, s, t);
        reducer.begin(number);
        int answer = reducer.ask(sort, s, t);
        if (answer == TRUE) answer = holder.holdAll();
        if (reducer.sawUnchecked) told.markUnchecked(number);
        takeState(answer, number);
        return number;
    }

    public int resolve() {
        if (state != STATE_FINE) return NONE;
        reducer.begin(NONE);
        for (int round = 0; round <= MOST_VARIABLES && state == STATE_FINE; round++) {
            int group = resolver.nextGroup(variables);
            if (group == 0) return variables;
            int answer = TRUE;
            for (int v = 0; v < variables && answer == TRUE; v++) {
                if ((group >> v & 1) != 0) answer = resolver.choose(v);
            }
            for (int v = 0; v < variables && v < MOST_VARIABLES && answer == TRUE; v++) {
                if ((group >> v & 1) == 0) continue;
                answer = reducer.ask(EQUAL, variableTypes[v], resolver.choiceOf(v));
                if (answer == TRUE) answer = holder.holdAll();
            }
            takeState(answer, NONE);
        }
        return NONE;
    }

    public int clear() {
        int before = told.size;
        variables = 0;
        told.size = 0;
        bounds.size = 0;
        holder.held = 0;
        reducer.made = 0;
        state = STATE_FINE;
        stateAt = NONE;
        return before;
    }

    public int count(int what) {
        switch (what) {
            case 0: return classes.size;
            case 1: return types.size;
            case 2: return variables;
            case 3: return told.size;
            case 4: return bounds.size;
            case 5: return state;
            case 6: return reducer.made;
            case 7: return stateAt;
            default: return OUTSIDE;
        }
    }

    public int type(int t, int what) {
        if (!types.has(t)) return OUTSIDE;
        switch (what) {
            case 0: return types.kindOf(t);
            case 1: return types.firstOf(t);
            case 2: return types.secondOf(t);
            case 3: return types.thirdOf(t);
            case 4: return types.depthOf(t);
            case 5: return types.isProper(t) ? 1 : 0;
            default: return OUTSIDE;
        }
    }

    public int bound(int i, int what) {
        if (!bounds.has(i)) return OUTSIDE;
        switch (what) {
            case 0: return bounds.sortOf(i);
            case 1: return bounds.variableOf(i);
            case 2: return bounds.typeOf(i);
            case 3: return bounds.originOf(i);
            default: return OUTSIDE;
        }
    }

    public int instance(int variable) {
        if (variable < 0 || variable >= variables) return OUTSIDE;
        return bounds.settledAs(variable, types);
    }

    public int above(int type, int cls) {
        if (!types.has(type) || types.kindOf(type) == WILD || !classes.has(cls)) return OUTSIDE;
        return reducer.aboveOf(type, cls);
    }

    public int unchecked(int i) {
        if (!told.has(i)) return OUTSIDE;
        return told.isUnchecked(i) ? 1 : 0;
    }

    public int judge(int i) {
        if (!told.has(i)) return OUTSIDE;
        Exchange exchange = reducer.exchange;
        exchange.forVariables();
        for (int v = 0; v < variables; v++) {
            int instance = bounds.settledAs(v, types);
            if (instance >= 0) exchange.setInstead(v, instance);
        }
        int s = exchange.put(told.leftOf(i), 1);
        int t = s < 0 ? FULL : exchange.put(told.rightOf(i), 1);
        if (s < 0 || t < 0) return FULL;
        if (!types.isProper(s) || !types.isProper(t)) return 0;
        int madeBefore = reducer.made;
        reducer.begin(NONE);
        int answer = reducer.ask(told.sortOf(i), s, t);
        if (answer == TRUE) answer = reducer.less();
        reducer.made = madeBefore;
        if (answer == TRUE && reducer.sawUnchecked) return 2;
        return answer;
    }

    private boolean canBeArgument(int type) {
        int kind = types.kindOf(type);
        return types.has(type) && kind != PRIMITIVE && kind != NOTHING;
    }

    private boolean canBeTold(int sort, int type) {
        if (!types.has(type)) return false;
        if (types.kindOf(type) == WILD && sort != CONTAINED) return false;
        return types.variablesIn(type) >> variables == 0;
    }

    private boolean canBeParent(int cls, int type) {
        int kind = types.kindOf(type);
        if (kind != BARE && kind != ARGUED) return false;
        int above = types.firstOf(type);
        if (above == OBJECT || !types.isOfClassesBefore(type, cls)) return false;
        if (kind == BARE && classes.parametersOf(above) > 0) return false;
        if (types.kindOf(types.secondOf(type)) == WILD) return false;
        if (types.kindOf(types.thirdOf(type)) == WILD) return false;
        // neither can be told with a class, at whatever depth: they come of formulas and of other types
        if (types.hasInIt(type, VARIABLE) || types.hasInIt(type, CAPTURE)) return false;
        return types.ownersIn(type, cls) == 0;
    }

    private void takeState(int answer, int number) {
        if (answer == TRUE) return;
        state = answer == FALSE ? STATE_FALSE : STATE_FULL;
        stateAt = number;
    }

    /** The classes, and which of them stand above which by their parents. */
    private static final class Classes {
        final int[] parameters = new int[MOST_CLASSES];
        final int[] parentCount = new int[MOST_CLASSES];
        final int[] parentType = new int[MOST_CLASSES * MOST_PARENTS];
        final int[] parentClass = new int[MOST_CLASSES * MOST_PARENTS];
        // bit g: the class is g, or has g above it
        final long[] reach = new long[MOST_CLASSES];
        int size;

        Classes() {
            size = FIRST_DECLARED;
            for (int c = 0; c < FIRST_DECLARED; c++) reach[c] = 1L << c;
        }

        boolean has(int c) {
            return c >= 0 && c < size;
        }

        int add(int parametersOfIt) {
            if (size < 0 || size >= MOST_CLASSES) return FULL;
            parameters[size] = parametersOfIt;
            reach[size] = 1L << size;
            size++;
            return size - 1;
        }

        int parametersOf(int c) {
            return has(c) ? parameters[c] : 0;
        }

        int addParent(int c, int type, int classOfType) {
            if (!has(c) || !has(classOfType)) return OUTSIDE;
            int n = parentCount[c];
            if (n < 0 || n >= MOST_PARENTS) return FULL;
            parentType[c * MOST_PARENTS + n] = type;
            parentClass[c * MOST_PARENTS + n] = classOfType;
            parentCount[c] = n + 1;
            renewReach();
            return n + 1;
        }

        // a parent may come to a class that is itself a parent already; parents have lesser numbers
        private void renewReach() {
            for (int c = FIRST_DECLARED; c < size; c++) {
                long all = 1L << c;
                for (int n = 0; n < parentCount[c] && n < MOST_PARENTS; n++) {
                    int p = parentClass[c * MOST_PARENTS + n];
                    if (has(p)) all |= reach[p];
                }
                reach[c] = all;
            }
        }

        boolean reaches(int c, int g) {
            return has(c) && has(g) && (reach[c] >> g & 1L) != 0;
        }

        /** The first parent of c by which g is reached. */
        int parentTowards(int c, int g) {
            if (!has(c)) return NONE;
            for (int n = 0; n < parentCount[c] && n < MOST_PARENTS; n++) {
                int p = parentClass[c * MOST_PARENTS + n];
                if (has(p) && (reach[p] >> g & 1L) != 0) return parentType[c * MOST_PARENTS + n];
            }
            return NONE;
        }
    }

    /** All types, a place in the rows for each; the parts of a type always have lesser numbers. */
    private static final class Types {
        private static final int CHAINS = 128;

        final int[] kind = new int[MOST_TYPES];
        // what type(t, 1), type(t, 2) and type(t, 3) answer
        final int[] first = new int[MOST_TYPES];
        final int[] second = new int[MOST_TYPES];
        final int[] third = new int[MOST_TYPES];
        final int[] depth = new int[MOST_TYPES];
        // bit k: it is of kind k, or has a type of that in it
        final int[] kinds = new int[MOST_TYPES];
        // bit v: variable v is in it
        final int[] variables = new int[MOST_TYPES];
        // bit c: a parameter of class c is in it
        final long[] owners = new long[MOST_TYPES];
        // bit c: it is of class c, or has a type of that in it
        final long[] named = new long[MOST_TYPES];
        final int[] chainFirst = new int[CHAINS];
        final int[] chainNext = new int[MOST_TYPES];
        int size;

        Types() {
            Arrays.fill(chainFirst, NONE);
        }

        boolean has(int t) {
            return t >= 0 && t < size;
        }

        int kindOf(int t) {
            return t >= 0 && t < size ? kind[t] : NONE;
        }

        int firstOf(int t) {
            return t >= 0 && t < size ? first[t] : NONE;
        }

        int secondOf(int t) {
            return t >= 0 && t < size ? second[t] : NONE;
        }

        int thirdOf(int t) {
            return t >= 0 && t < size ? third[t] : NONE;
        }

        int depthOf(int t) {
            return t >= 0 && t < size ? depth[t] : NONE;
        }

        int variablesIn(int t) {
            return t >= 0 && t < size ? variables[t] : 0;
        }

        boolean isProper(int t) {
            return t >= 0 && t < size && variables[t] == 0;
        }

        /** Whether t is of a kind, or has a type of that in it, however deep. */
        boolean hasInIt(int t, int k) {
            return t >= 0 && t < size && (kinds[t] >> k & 1) != 0;
        }

        /** The classes but c whose parameters are in t, as bits. */
        long ownersIn(int t, int c) {
            if (t < 0 || t >= size) return 0;
            return c < 0 ? owners[t] : owners[t] & ~(1L << c);
        }

        /** Whether all classes that t is made of have lesser numbers than c. */
        boolean isOfClassesBefore(int t, int c) {
            return t >= 0 && t < size && c >= 0 && c < MOST_CLASSES && named[t] >> c == 0;
        }

        int argumentOf(int t, int place) {
            if (t < 0 || t >= size) return NONE;
            return place == 0 ? second[t] : third[t];
        }

        /** The class of a type with or without arguments; of others NONE. */
        int classOf(int t) {
            if (t < 0 || t >= size) return NONE;
            return kind[t] == BARE || kind[t] == ARGUED ? first[t] : NONE;
        }

        /** The bound of a capture whose wildcard is of this sort; of others NONE. */
        int captureBound(int t, int sort) {
            if (t < 0 || t >= size || kind[t] != CAPTURE) return NONE;
            int wildcard = argumentOf(first[t], second[t]);
            return firstOf(wildcard) == sort ? secondOf(wildcard) : NONE;
        }

        /** The number of a type, an old one if there is one alike; FULL. */
        int make(int k, int a, int b, int c) {
            int chain = ((k * 31 + a) * 31 + b) * 31 + c & CHAINS - 1;
            int t = chainFirst[chain];
            for (int n = 0; n < MOST_TYPES && t >= 0 && t < size; n++) {
                if (kind[t] == k && first[t] == a && second[t] == b && third[t] == c) return t;
                t = chainNext[t];
            }
            int deep = 1;
            int ofKinds = 1 << k;
            int inside = k == VARIABLE ? 1 << a : 0;
            long owned = k == PARAMETER ? 1L << a : 0;
            long names = k == BARE || k == ARGUED ? 1L << a : 0;
            for (int n = 0; n < 3; n++) {
                int part = NONE;
                if (n == 0 && (k == ARRAY || k == CAPTURE)) part = a;
                if (n == 1 && (k == ARGUED || k == WILD)) part = b;
                if (n == 2 && k == ARGUED) part = c;
                if (part < 0 || part >= size) continue;
                if (deep <= depth[part]) deep = depth[part] + 1;
                ofKinds |= kinds[part];
                inside |= variables[part];
                owned |= owners[part];
                names |= named[part];
            }
            if (deep > MOST_DEPTH || size < 0 || size >= MOST_TYPES) return FULL;
            t = size;
            kind[t] = k;
            first[t] = a;
            second[t] = b;
            third[t] = c;
            depth[t] = deep;
            kinds[t] = ofKinds;
            variables[t] = inside;
            owners[t] = owned;
            named[t] = names;
            chainNext[t] = chainFirst[chain];
            chainFirst[chain] = t;
            size++;
            return t;
        }
    }

    /** Puts types in place of variables, or of the parameters of a class. */
    private static final class Exchange {
        final Types types;
        final int[] instead = new int[MOST_VARIABLES];
        // a type may hold the same part very often: each part is worked out once
        final int[] done = new int[MOST_TYPES];
        final int[] doneAt = new int[MOST_TYPES];
        int stamp;
        int variables;
        int owner;

        Exchange(Types types) {
            this.types = types;
            owner = NONE;
        }

        void forVariables() {
            stamp++;
            variables = 0;
            owner = NONE;
        }

        void setInstead(int variable, int type) {
            if (variable < 0 || variable >= MOST_VARIABLES) return;
            instead[variable] = type;
            variables |= 1 << variable;
        }

        void forArguments(int type) {
            stamp++;
            variables = 0;
            owner = type;
        }

        /** The type t with all in place; FULL. Types are at most 20 deep, and so are these calls. */
        int put(int t, int level) {
            if (t < 0 || t >= MOST_TYPES) return t;
            boolean touched = owner < 0 ? (types.variablesIn(t) & variables) != 0 : types.ownersIn(t, NONE) != 0;
            if (!touched) return t;
            if (level > MOST_DEPTH) return FULL;
            if (doneAt[t] == stamp) return done[t];
            int kind = types.kindOf(t), a = types.firstOf(t), b = types.secondOf(t), c = types.thirdOf(t);
            int answer = t;
            if (kind == VARIABLE && a >= 0 && a < MOST_VARIABLES) {
                answer = instead[a];
            } else if (kind == PARAMETER && a == types.firstOf(owner)) {
                answer = types.argumentOf(owner, b);
                if (types.kindOf(answer) == WILD) answer = types.make(CAPTURE, owner, b, NONE);
            } else if (kind == ARRAY || kind == CAPTURE) {
                int part = put(a, level + 1);
                answer = part == FULL ? FULL : types.make(kind, part, b, NONE);
            } else if (kind == WILD || kind == ARGUED) {
                int left = put(b, level + 1);
                int right = left == FULL ? FULL : put(c, level + 1);
                answer = right == FULL ? FULL : types.make(kind, a, left, right);
            }
            done[t] = answer;
            doneAt[t] = stamp;
            return answer;
        }
    }

    /** The bounds, in the order in which they came. */
    private static final class Bounds {
        final int[] sort = new int[MOST_BOUNDS];
        final int[] variable = new int[MOST_BOUNDS];
        final int[] type = new int[MOST_BOUNDS];
        final int[] origin = new int[MOST_BOUNDS];
        int size;

        boolean has(int i) {
            return i >= 0 && i < size;
        }

        int sortOf(int i) {
            return i >= 0 && i < size ? sort[i] : NONE;
        }

        int variableOf(int i) {
            return i >= 0 && i < size ? variable[i] : NONE;
        }

        int typeOf(int i) {
            return i >= 0 && i < size ? type[i] : NONE;
        }

        int originOf(int i) {
            return i >= 0 && i < size ? origin[i] : NONE;
        }

        int add(int s, int v, int t, int from) {
            for (int i = 0; i < size; i++) {
                if (sort[i] == s && variable[i] == v && type[i] == t) return TRUE;
            }
            if (size < 0 || size >= MOST_BOUNDS) return FULL;
            sort[size] = s;
            variable[size] = v;
            type[size] = t;
            origin[size] = from;
            size++;
            return TRUE;
        }

        /** The first proper type that a variable is; NONE: it is not settled. */
        int settledAs(int v, Types types) {
            for (int i = 0; i < size; i++) {
                if (sort[i] == IS && variable[i] == v && types.isProper(type[i])) return type[i];
            }
            return NONE;
        }
    }

    /** The formulas that were told. */
    private static final class Told {
        final int[] sort = new int[MOST_FORMULAS];
        final int[] left = new int[MOST_FORMULAS];
        final int[] right = new int[MOST_FORMULAS];
        final boolean[] loose = new boolean[MOST_FORMULAS];
        int size;

        boolean has(int i) {
            return i >= 0 && i < size;
        }

        boolean hasRoom() {
            return size >= 0 && size < MOST_FORMULAS;
        }

        int add(int s, int l, int r) {
            if (!hasRoom()) return NONE;
            sort[size] = s;
            left[size] = l;
            right[size] = r;
            loose[size] = false;
            size++;
            return size - 1;
        }

        int sortOf(int i) {
            return has(i) ? sort[i] : NONE;
        }

        int leftOf(int i) {
            return has(i) ? left[i] : NONE;
        }

        int rightOf(int i) {
            return has(i) ? right[i] : NONE;
        }

        void markUnchecked(int i) {
            if (has(i)) loose[i] = true;
        }

        boolean isUnchecked(int i) {
            return has(i) && loose[i];
        }
    }

    /** Formulas that wait to be made less, the next one on top. */
    private static final class Work {
        // a formula has at most two within it, so one waits at each level while the other is at work
        private static final int ROOM = 2 * MOST_WITHIN;

        final int[] sorts = new int[ROOM];
        final int[] lefts = new int[ROOM];
        final int[] rights = new int[ROOM];
        final int[] levels = new int[ROOM];
        int size;
        int sort;
        int left;
        int right;
        int level;

        boolean add(int s, int l, int r, int within) {
            if (size < 0 || size >= ROOM) return false;
            sorts[size] = s;
            lefts[size] = l;
            rights[size] = r;
            levels[size] = within;
            size++;
            return true;
        }

        boolean take() {
            if (size < 1 || size > ROOM) return false;
            size--;
            sort = sorts[size];
            left = lefts[size];
            right = rights[size];
            level = levels[size];
            return true;
        }
    }

    /** Makes formulas less. All that come of one must be true, so they wait in one row. */
    private static final class Reducer {
        final Classes classes;
        final Types types;
        final Bounds bounds;
        final Exchange exchange;
        final Work work = new Work();
        int made;
        int madeInCall;
        int origin;
        boolean sawUnchecked;

        Reducer(Classes classes, Types types, Bounds bounds, Exchange exchange) {
            this.classes = classes;
            this.types = types;
            this.bounds = bounds;
            this.exchange = exchange;
        }

        void begin(int from) {
            work.size = 0;
            madeInCall = 0;
            origin = from;
            sawUnchecked = false;
        }

        /** A formula that is within no other one. */
        int ask(int sort, int s, int t) {
            if (s < 0 || t < 0) return FULL;
            return work.add(sort, s, t, 1) ? TRUE : FULL;
        }

        /** Makes less all that waits: TRUE, FALSE or FULL. */
        int less() {
            int answer = TRUE;
            for (int n = 0; n <= MOST_IN_CALL && answer == TRUE && work.take(); n++) {
                if (work.level > MOST_WITHIN || madeInCall >= MOST_IN_CALL) {
                    answer = FULL;
                } else {
                    madeInCall++;
                    made++;
                    switch (work.sort) {
                        case COMPATIBLE: answer = lessCompatible(work.left, work.right); break;
                        case SUB: answer = lessSub(work.left, work.right); break;
                        case CONTAINED: answer = lessContained(work.left, work.right); break;
                        default: answer = lessEqual(work.left, work.right); break;
                    }
                }
            }
            work.size = 0;
            return answer;
        }

        /** A formula within the one that is at work; a type that had no room ends all. */
        private int within(int sort, int s, int t) {
            if (s < 0 || t < 0) return FULL;
            return work.add(sort, s, t, work.level + 1) ? TRUE : FULL;
        }

        private int withinArguments(int sort, int s, int t) {
            int answer = TRUE;
            for (int place = classes.parametersOf(types.classOf(t)) - 1; place >= 0 && answer == TRUE; place--) {
                answer = within(sort, types.argumentOf(s, place), types.argumentOf(t, place));
            }
            return answer;
        }

        private int lessCompatible(int s, int t) {
            boolean left = types.kindOf(s) == PRIMITIVE, right = types.kindOf(t) == PRIMITIVE;
            if (types.isProper(s) && types.isProper(t)) {
                if (left && right) return truth(widens(types.firstOf(s), types.firstOf(t)));
                if (left) return within(SUB, boxOf(s), t);
                if (right) return truth(unboxes(s, t));
            } else {
                if (left) return within(COMPATIBLE, boxOf(s), t);
                if (right) return within(EQUAL, s, boxOf(t));
            }
            if (types.kindOf(t) == ARGUED) {
                int found = aboveOf(s, types.firstOf(t));
                if (found == FULL) return FULL;
                if (types.kindOf(found) == BARE) {
                    sawUnchecked = true;
                    return TRUE;
                }
            }
            return within(SUB, s, t);
        }

        private int lessSub(int s, int t) {
            if (s == t) return TRUE;
            int left = types.kindOf(s), right = types.kindOf(t);
            if (left == NOTHING) return truth(right != PRIMITIVE);
            if (right == NOTHING || left == PRIMITIVE || right == PRIMITIVE) return FALSE;
            if (left == VARIABLE || right == VARIABLE) return bind(BELOW, ABOVE, s, t);
            if (right == BARE) {
                if (types.firstOf(t) == OBJECT) return TRUE;
                int found = aboveOf(s, types.firstOf(t));
                return found == FULL ? FULL : truth(found >= 0);
            }
            if (right == ARGUED) {
                int found = aboveOf(s, types.firstOf(t));
                if (found == FULL) return FULL;
                return types.kindOf(found) == ARGUED ? withinArguments(CONTAINED, found, t) : FALSE;
            }
            if (right == ARRAY && left == ARRAY) {
                int u = types.firstOf(s), v = types.firstOf(t);
                if (types.kindOf(u) == PRIMITIVE || types.kindOf(v) == PRIMITIVE) return truth(u == v);
                return within(SUB, u, v);
            }
            int lower = types.captureBound(t, DOWN_TO);
            return lower >= 0 ? within(SUB, s, lower) : FALSE;
        }

        private int lessContained(int s, int t) {
            boolean wildLeft = types.kindOf(s) == WILD;
            if (types.kindOf(t) != WILD) return wildLeft ? FALSE : within(EQUAL, s, t);
            int sort = types.firstOf(t), u = types.secondOf(t);
            if (sort == ANY) return TRUE;
            int sortLeft = wildLeft ? types.firstOf(s) : NONE;
            if (sort == UP_TO) {
                if (!wildLeft) return within(SUB, s, u);
                if (sortLeft == UP_TO) return within(SUB, types.secondOf(s), u);
                return within(sortLeft == ANY ? SUB : EQUAL, types.make(BARE, OBJECT, NONE, NONE), u);
            }
            if (!wildLeft) return within(SUB, u, s);
            return sortLeft == DOWN_TO ? within(SUB, u, types.secondOf(s)) : FALSE;
        }

        private int lessEqual(int s, int t) {
            if (s == t) return TRUE;
            if (types.isProper(s) && types.isProper(t)) return FALSE;
            int left = types.kindOf(s), right = types.kindOf(t);
            if (left == NOTHING || left == PRIMITIVE || right == NOTHING || right == PRIMITIVE) return FALSE;
            if (left == VARIABLE || right == VARIABLE) return bind(IS, IS, s, t);
            if (left != right) return FALSE;
            int a = types.firstOf(s), b = types.firstOf(t);
            if (left == ARGUED) return a == b ? withinArguments(EQUAL, s, t) : FALSE;
            if (left == ARRAY) return within(EQUAL, a, b);
            int c = types.secondOf(s), d = types.secondOf(t);
            if (left == CAPTURE) return c == d ? within(EQUAL, a, b) : FALSE;
            return left == WILD && a == b ? within(EQUAL, c, d) : FALSE;
        }

        /** The bound of two types for each of them that is a variable, the left one's first. */
        private int bind(int sortLeft, int sortRight, int s, int t) {
            int answer = TRUE;
            if (types.kindOf(s) == VARIABLE) answer = bounds.add(sortLeft, types.firstOf(s), t, origin);
            if (answer == TRUE && types.kindOf(t) == VARIABLE) {
                answer = bounds.add(sortRight, types.firstOf(t), s, origin);
            }
            return answer;
        }

        private static int truth(boolean holds) {
            return holds ? TRUE : FALSE;
        }

        private int boxOf(int primitive) {
            return types.make(BARE, types.firstOf(primitive) + FIRST_BOX, NONE, NONE);
        }

        /** Whether a primitive is another one or widens to it: their numbers rise, but nothing goes to char. */
        private static boolean widens(int from, int to) {
            return from == to || from != BOOLEAN && to > from && to != CHAR;
        }

        private boolean unboxes(int s, int t) {
            int box = types.firstOf(s);
            if (types.kindOf(s) != BARE || box < FIRST_BOX || box >= FIRST_DECLARED) return false;
            return widens(box - FIRST_BOX, types.firstOf(t));
        }

        /** What is above a type as class g: NONE, FULL. */
        int aboveOf(int type, int g) {
            int at = type;
            for (int n = 0; n < MOST_DEPTH && types.kindOf(at) == CAPTURE; n++) {
                at = types.captureBound(at, UP_TO);
            }
            for (int n = 0; n < MOST_CLASSES && classes.reaches(types.classOf(at), g); n++) {
                int c = types.classOf(at);
                if (c == g) return at;
                // every parent that reaches g has something there, so the first one is the one that counts
                int parent = classes.parentTowards(c, g);
                if (types.kindOf(at) == ARGUED) {
                    exchange.forArguments(at);
                    at = exchange.put(parent, 1);
                } else if (classes.parametersOf(c) > 0) {
                    at = types.make(BARE, types.firstOf(parent), NONE, NONE);
                } else {
                    at = parent;
                }
                if (at < 0) return FULL;
            }
            if (g != OBJECT || !types.has(type) || types.kindOf(type) == PRIMITIVE) return NONE;
            return types.make(BARE, OBJECT, NONE, NONE);
        }
    }

    /** Holds new bounds against the elder ones till nothing new comes. */
    private static final class Holder {
        final Classes classes;
        final Types types;
        final Bounds bounds;
        final Exchange exchange;
        final Reducer reducer;
        final int[] variableTypes;
        // all bounds before this one have been held
        int held;

        Holder(Classes classes, Types types, Bounds bounds, Exchange exchange, Reducer reducer, int[] variableTypes) {
            this.classes = classes;
            this.types = types;
            this.bounds = bounds;
            this.exchange = exchange;
            this.reducer = reducer;
            this.variableTypes = variableTypes;
        }

        /** Makes less what waits, and holds all bounds that have come and come of it. */
        int holdAll() {
            int answer = reducer.less();
            while (answer == TRUE && held < bounds.size && held < MOST_BOUNDS) {
                for (int elder = 0; elder < held && answer == TRUE; elder++) {
                    answer = comes(elder, held);
                    if (answer == TRUE) answer = reducer.less();
                    if (answer == TRUE) answer = shareArguments(elder, held);
                    if (answer == TRUE) answer = comes(held, elder);
                    if (answer == TRUE) answer = reducer.less();
                }
                held++;
            }
            return answer;
        }

        /** Asks what comes of two bounds in this order. */
        private int comes(int p, int q) {
            if (bounds.variableOf(p) != bounds.variableOf(q)) return putsInto(p, q);
            int sortP = bounds.sortOf(p), sortQ = bounds.sortOf(q);
            int u = bounds.typeOf(p), v = bounds.typeOf(q);
            if (sortP == IS && sortQ == IS) return p < q ? reducer.ask(EQUAL, u, v) : TRUE;
            if (sortP == IS && sortQ == ABOVE) return reducer.ask(SUB, v, u);
            if (sortP != BELOW && sortQ == BELOW) return reducer.ask(SUB, u, v);
            return TRUE;
        }

        /** What bound p says that its variable is, put into bound q of another variable. */
        private int putsInto(int p, int q) {
            int x = bounds.variableOf(p), y = bounds.variableOf(q);
            int u = bounds.typeOf(p), v = bounds.typeOf(q);
            if (bounds.sortOf(p) != IS || !types.isProper(u)) return TRUE;
            if (y < 0 || y >= MOST_VARIABLES || (types.variablesIn(v) >> x & 1) == 0) return TRUE;
            exchange.forVariables();
            exchange.setInstead(x, u);
            int w = exchange.put(v, 1);
            switch (bounds.sortOf(q)) {
                case IS: return reducer.ask(EQUAL, variableTypes[y], w);
                case BELOW: return reducer.ask(SUB, variableTypes[y], w);
                default: return reducer.ask(SUB, w, variableTypes[y]);
            }
        }

        /** Two types that one variable is below have the same arguments, as each class that is above both. */
        private int shareArguments(int p, int q) {
            if (bounds.variableOf(p) != bounds.variableOf(q)) return TRUE;
            if (bounds.sortOf(p) != BELOW || bounds.sortOf(q) != BELOW) return TRUE;
            int answer = TRUE;
            for (int g = 0; g < classes.size && answer == TRUE; g++) {
                if (classes.parametersOf(g) == 0) continue;
                int a = reducer.aboveOf(bounds.typeOf(p), g);
                if (a == FULL) return FULL;
                if (types.kindOf(a) != ARGUED) continue;
                int b = reducer.aboveOf(bounds.typeOf(q), g);
                if (b == FULL) return FULL;
                if (types.kindOf(b) != ARGUED) continue;
                for (int place = 0; place < classes.parametersOf(g) && answer == TRUE; place++) {
                    int c = types.argumentOf(a, place), d = types.argumentOf(b, place);
                    if (types.kindOf(c) == WILD || types.kindOf(d) == WILD) continue;
                    answer = reducer.ask(EQUAL, c, d);
                    if (answer == TRUE) answer = reducer.less();
                }
            }
            return answer;
        }
    }

    /** Finds the variables that are chosen for next, and their types. */
    private static final class Resolver {
        final Classes classes;
        final Types types;
        final Bounds bounds;
        final Reducer reducer;
        // the proper types that the variable is above, or below, that is chosen for
        final int[] near = new int[MOST_BOUNDS];
        int nearSize;
        final int[] links = new int[MOST_VARIABLES];
        final int[] choices = new int[MOST_VARIABLES];

        Resolver(Classes classes, Types types, Bounds bounds, Reducer reducer) {
            this.classes = classes;
            this.types = types;
            this.bounds = bounds;
            this.reducer = reducer;
        }

        int choiceOf(int v) {
            return v >= 0 && v < MOST_VARIABLES ? choices[v] : NONE;
        }

        /** The variables that are chosen for next, as bits; 0: all are settled. */
        int nextGroup(int variables) {
            int open = 0;
            for (int v = 0; v < variables; v++) {
                if (bounds.settledAs(v, types) < 0) open |= 1 << v;
            }
            link(open);
            int best = 0;
            for (int v = 0; v < variables; v++) {
                if ((open >> v & 1) == 0) continue;
                int group = groupOf(v);
                if (best == 0 || Integer.bitCount(group) < Integer.bitCount(best)) best = group;
            }
            return best;
        }

        // one bound links both ways: its variable depends on those in it, and they on it
        private void link(int open) {
            Arrays.fill(links, 0);
            for (int i = 0; i < bounds.size; i++) {
                int x = bounds.variableOf(i);
                if (x < 0 || x >= MOST_VARIABLES || (open >> x & 1) == 0) continue;
                int inside = types.variablesIn(bounds.typeOf(i)) & open;
                links[x] |= inside;
                for (int v = 0; v < MOST_VARIABLES; v++) {
                    if ((inside >> v & 1) != 0) links[v] |= 1 << x;
                }
            }
        }

        private int groupOf(int v) {
            int group = 1 << v;
            for (int n = 0; n < MOST_VARIABLES; n++) {
                for (int w = 0; w < MOST_VARIABLES; w++) {
                    if ((group >> w & 1) != 0) group |= links[w];
                }
            }
            return group;
        }

        /** Chooses a variable's type: TRUE, FALSE (there is none) or FULL. */
        int choose(int v) {
            if (v < 0 || v >= MOST_VARIABLES) return FALSE;
            gather(ABOVE, v);
            int choice;
            if (nearSize > 0) {
                choice = outermost(ABOVE);
                if (choice == NONE) choice = joinOfClasses();
            } else {
                gather(BELOW, v);
                choice = nearSize > 0 ? outermost(BELOW) : types.make(BARE, OBJECT, NONE, NONE);
            }
            choices[v] = choice;
            if (choice >= 0) return TRUE;
            return choice == FULL ? FULL : FALSE;
        }

        private void gather(int sort, int v) {
            nearSize = 0;
            for (int i = 0; i < bounds.size && nearSize < MOST_BOUNDS; i++) {
                if (bounds.sortOf(i) != sort || bounds.variableOf(i) != v) continue;
                if (!types.isProper(bounds.typeOf(i))) continue;
                near[nearSize] = bounds.typeOf(i);
                nearSize++;
            }
        }

        /** The first of those near that all others are SUB of (ABOVE), or that is SUB of all (BELOW). */
        private int outermost(int sort) {
            for (int i = 0; i < nearSize; i++) {
                int answer = TRUE;
                for (int j = 0; j < nearSize && answer == TRUE; j++) {
                    if (j == i) continue;
                    answer = sort == ABOVE ? reducer.ask(SUB, near[j], near[i]) : reducer.ask(SUB, near[i], near[j]);
                    if (answer == TRUE) answer = reducer.less();
                }
                if (answer == FULL) return FULL;
                if (answer == TRUE) return near[i];
            }
            return NONE;
        }

        private int joinOfClasses() {
            long common = 0;
            for (int g = 0; g < classes.size; g++) {
                int answer = isAboveAll(g);
                if (answer == FULL) return FULL;
                if (answer == TRUE) common |= 1L << g;
            }
            for (int g = 0; g < classes.size; g++) {
                if ((common >> g & 1L) == 0) continue;
                int answer = isAboveAnother(g, common);
                if (answer == FULL) return FULL;
                if (answer == FALSE) return joinAs(g);
            }
            return NONE;
        }

        private int isAboveAll(int g) {
            for (int i = 0; i < nearSize; i++) {
                int found = reducer.aboveOf(near[i], g);
                if (found == FULL) return FULL;
                if (found < 0) return FALSE;
            }
            return TRUE;
        }

        private int isAboveAnother(int g, long common) {
            for (int h = 0; h < classes.size; h++) {
                if (h == g || (common >> h & 1L) == 0) continue;
                int bare = types.make(BARE, h, NONE, NONE);
                int found = bare < 0 ? FULL : reducer.aboveOf(bare, g);
                if (found == FULL) return FULL;
                if (found >= 0) return TRUE;
            }
            return FALSE;
        }

        private int joinAs(int g) {
            for (int i = 0; i < nearSize; i++) {
                int found = reducer.aboveOf(near[i], g);
                if (found == FULL) return FULL;
                if (types.kindOf(found) != ARGUED) return types.make(BARE, g, NONE, NONE);
            }
            int a = sharedArgument(g, 0);
            int b = classes.parametersOf(g) > 1 ? sharedArgument(g, 1) : NONE;
            return a == FULL || b == FULL ? FULL : types.make(ARGUED, g, a, b);
        }

        /** The argument at a place of what is above those near, if all have the same; else any. */
        private int sharedArgument(int g, int place) {
            int shared = NONE;
            for (int i = 0; i < nearSize; i++) {
                int argument = types.argumentOf(reducer.aboveOf(near[i], g), place);
                if (i > 0 && argument != shared) return types.make(WILD, ANY, NONE, NONE);
                shared = argument;
            }
            return shared;
        }
    }
}
