import java.util.Arrays;

/**
 * Types of rows through a graph of operators. The words in capitals are those of the document.
 */
public final class TypeFlow {
    public static final int NONE = -1, BAD = -2, FULL = -3;

    private static final int MOST_CLASSES = 12, MOST_TYPES = 80, MOST_MEMBERS = 24,
            MOST_FUNCTIONS = 16, MOST_OPERATORS = 24, MOST_VARIABLES = 2;

    private static final int BIT = 0, INT = 1, LONG = 2, REAL = 3,
            VARIABLE_0 = 4, VARIABLE_1 = 5, ANY = 6;

    private static final int ANY_CLASS = 0;

    private static final int SOURCE = 0, MAP = 1, FILTER = 2, MEMBER = 3,
            UNION = 4, ZIP = 5, JOIN = 6, CAST = 7;

    private static final int NO_FAULT = 0, UNLIKE = 1, TORN = 2, BEYOND = 3, UNBOUND = 4,
            LACKS = 5, APART = 6, EARLIER = 7, NO_ROOM = 8;

    private final Types types;
    private final Members members;
    private final Functions functions;
    private final Operators operators;
    private final Worker worker;

    public TypeFlow() {
        types = new Types();
        members = new Members();
        functions = new Functions();
        operators = new Operators();
        worker = new Worker(types, members, functions, operators);
    }

    public int classOf(int variables, int parent) {
        if (variables < 0 || variables > MOST_VARIABLES) {
            return BAD;
        }
        if (!types.isClassType(parent) || !types.hasOnly(parent, variables)) {
            return BAD;
        }
        return types.addClass(variables, parent);
    }

    public int type(int cls, int a, int b) {
        if (!types.isClass(cls)) {
            return BAD;
        }
        int needed = types.variables[cls];
        if (needed > 0 && !types.isArgument(a) || needed > 1 && !types.isArgument(b)) {
            return BAD;
        }
        return types.make(cls, needed > 0 ? a : NONE, needed > 1 ? b : NONE);
    }

    public int member(int cls, int type) {
        if (!types.isClass(cls) || !types.isType(type)) {
            return BAD;
        }
        if (!types.hasOnly(type, types.variables[cls])) {
            return BAD;
        }
        return members.add(cls, type);
    }

    public int function(int first, int second, int result) {
        if (!types.isType(first) || !types.isType(result)) {
            return BAD;
        }
        if (second != NONE && !types.isType(second)) {
            return BAD;
        }
        return functions.add(first, second, result);
    }

    public int bound(int function, int variable, int type) {
        if (!functions.has(function) || !isVariableNumber(variable)) {
            return BAD;
        }
        if (type != NONE && !(types.isClassType(type) && types.isClosed(type))) {
            return BAD;
        }
        functions.bounds[function * MOST_VARIABLES + variable] = type;
        return 1;
    }

    public int operator(int kind, int a, int b, int f, int g, int c) {
        if (!isAsTold(kind, a, b, f, g, c)) {
            return BAD;
        }
        return operators.add(kind, a, b, f, g, c);
    }

    public int clear() {
        int gone = operators.size;
        operators.size = 0;
        return gone;
    }

    public int flow() {
        int withType = 0;
        for (int operator = 0; operator < operators.size; operator++) {
            int type = worker.whatComes(operator);
            worker.keep(operator, type);
            if (type != NONE) {
                withType++;
            }
        }
        return withType;
    }

    public int comes(int operator) {
        return operators.has(operator) ? operators.type[operator] : BAD;
    }

    public int reason(int operator) {
        return operators.has(operator) ? operators.fault[operator] : BAD;
    }

    public int mayFail(int operator) {
        if (!operators.has(operator)) {
            return BAD;
        }
        return operators.risky[operator] ? 1 : 0;
    }

    public int cast(int k) {
        int ahead = 0;
        for (int operator = 0; operator < operators.size; operator++) {
            if (operators.risky[operator]) {
                if (ahead == k) {
                    return operator;
                }
                ahead++;
            }
        }
        return NONE;
    }

    public int boundTo(int operator, int variable) {
        if (!operators.has(operator) || !isVariableNumber(variable)) {
            return BAD;
        }
        return operators.bindings[operator * MOST_VARIABLES + variable];
    }

    public int goes(int one, int two) {
        if (!types.isClosed(one) || !types.isClosed(two)) {
            return BAD;
        }
        return types.goesFor(one, two);
    }

    public int common(int one, int two) {
        if (!types.isClosed(one) || !types.isClosed(two)) {
            return BAD;
        }
        return types.commonOf(one, two);
    }

    public int seen(int type, int cls) {
        if (!types.isClassType(type) || !types.isClass(cls)) {
            return BAD;
        }
        return types.seenAs(type, cls);
    }

    public int about(int type, int what) {
        if (!types.isType(type)) {
            return BAD;
        }
        switch (what) {
            case 0:
                return types.ofClass[type];
            case 1:
                return types.first[type];
            case 2:
                return types.second[type];
            case 3:
                return types.isClosed(type) ? 1 : 0;
            default:
                return BAD;
        }
    }

    public int count(int what) {
        switch (what) {
            case 0:
                return types.classes;
            case 1:
                return types.size;
            case 2:
                return members.size;
            case 3:
                return functions.size;
            case 4:
                return operators.size;
            case 5:
                return operators.howManyRisky();
            default:
                return BAD;
        }
    }

    private boolean isAsTold(int kind, int a, int b, int f, int g, int c) {
        switch (kind) {
            case SOURCE:
                return types.isClosed(f);
            case MAP:
            case FILTER:
                return operators.has(a) && functions.hasWith(f, 1);
            case MEMBER:
                return operators.has(a) && members.has(f);
            case UNION:
                return operators.has(a) && operators.has(b);
            case ZIP:
                return operators.has(a) && operators.has(b) && functions.hasWith(f, 2);
            case JOIN:
                return operators.has(a) && operators.has(b) && members.has(f) && members.has(g)
                        && types.isClass(c) && types.variables[c] == 2;
            case CAST:
                return operators.has(a) && types.isClosed(f);
            default:
                return false;
        }
    }

    private static boolean isVariableNumber(int variable) {
        return variable >= 0 && variable < MOST_VARIABLES;
    }

    private static boolean isPrimitive(int type) {
        return type >= BIT && type <= REAL;
    }

    private static boolean isVariable(int type) {
        return type == VARIABLE_0 || type == VARIABLE_1;
    }

    /** Whether one PRIMITIVE GOES FOR another one. */
    private static boolean widens(int one, int two) {
        return one == INT && (two == LONG || two == REAL);
    }

    /**
     * CLASSES and TYPES. A TYPE is made after its ARGUMENTS, a CLASS after that of its PARENT: the
     * numbers fall on every way down into ARGUMENTS and up to PARENTS, so those ways have an end.
     */
    private static final class Types {
        int classes = 0;
        final int[] variables = new int[MOST_CLASSES];
        final int[] parent = new int[MOST_CLASSES];

        int size = 0;
        final int[] ofClass = new int[MOST_TYPES];
        final int[] first = new int[MOST_TYPES];
        final int[] second = new int[MOST_TYPES];
        /** Which VARIABLES stand in a TYPE: bit 0 for VARIABLE 0, bit 1 for VARIABLE 1. */
        final int[] within = new int[MOST_TYPES];

        /** While putting in: what a TYPE has become, NONE as long as it has not. */
        private final int[] image = new int[MOST_TYPES];
        /** While putting in: the TYPES that wait for their ARGUMENTS, each in the one before. */
        private final int[] path = new int[MOST_TYPES];

        Types() {
            addClass(0, NONE);
            Arrays.fill(ofClass, NONE);
            Arrays.fill(first, NONE);
            Arrays.fill(second, NONE);
            within[VARIABLE_0] = 1;
            within[VARIABLE_1] = 2;
            size = ANY;
            make(ANY_CLASS, NONE, NONE);
        }

        boolean isClass(int cls) {
            return cls >= 0 && cls < classes;
        }

        boolean isType(int type) {
            return type >= 0 && type < size;
        }

        boolean isClassType(int type) {
            return type >= ANY && type < size;
        }

        boolean isArgument(int type) {
            return type >= VARIABLE_0 && type < size;
        }

        boolean isClosed(int type) {
            return isType(type) && within[type] == 0;
        }

        /** Whether only the first so many VARIABLES stand in a TYPE. */
        boolean hasOnly(int type, int howMany) {
            return within[type] >> howMany == 0;
        }

        int addClass(int howMany, int above) {
            if (classes >= MOST_CLASSES) {
                return FULL;
            }
            variables[classes] = howMany;
            parent[classes] = above;
            return classes++;
        }

        /** A TYPE, there or new; NONE for each ARGUMENT that the CLASS does not need. FULL. */
        int make(int cls, int a, int b) {
            for (int type = ANY; type < size; type++) {
                if (ofClass[type] == cls && first[type] == a && second[type] == b) {
                    return type;
                }
            }
            if (size >= MOST_TYPES) {
                return FULL;
            }
            ofClass[size] = cls;
            first[size] = a;
            second[size] = b;
            within[size] = (a < 0 ? 0 : within[a]) | (b < 0 ? 0 : within[b]);
            return size++;
        }

        /**
         * A TYPE with one put in for VARIABLE 0 and two for VARIABLE 1, or FULL. Each TYPE in it is
         * gone through once only: one that holds the same TYPE twice at each level is small here,
         * but would be endless written out.
         */
        int putIn(int type, int one, int two) {
            for (int each = 0; each < size; each++) {
                image[each] = within[each] == 0 ? each : NONE;
            }
            image[VARIABLE_0] = one;
            image[VARIABLE_1] = two;
            path[0] = type;
            int height = image[type] == NONE ? 1 : 0;
            for (int step = 0; height > 0 && step < 2 * MOST_TYPES; step++) {
                int top = path[height - 1];
                int ahead = argumentWithoutImage(top);
                if (ahead != NONE && height < MOST_TYPES) {
                    path[height++] = ahead;
                    continue;
                }
                int made = make(ofClass[top], imageOf(first[top]), imageOf(second[top]));
                if (made == FULL) {
                    return FULL;
                }
                image[top] = made;
                height--;
            }
            return image[type];
        }

        private int argumentWithoutImage(int type) {
            if (first[type] >= ANY && image[first[type]] == NONE) {
                return first[type];
            }
            if (second[type] >= ANY && image[second[type]] == NONE) {
                return second[type];
            }
            return NONE;
        }

        private int imageOf(int argument) {
            return argument == NONE ? NONE : image[argument];
        }

        /** Whether a CLASS is another one or comes from it. */
        private boolean isFrom(int cls, int other) {
            int at = cls;
            for (int step = 0; at > other && step < MOST_CLASSES; step++) {
                at = classAbove(at);
            }
            return at == other;
        }

        /** The CLASS of the PARENT; NONE above ANY. */
        private int classAbove(int cls) {
            return cls == ANY_CLASS ? NONE : ofClass[parent[cls]];
        }

        /** A class TYPE SEEN AS a CLASS; NONE, or FULL. */
        int seenAs(int type, int cls) {
            if (!isFrom(ofClass[type], cls)) {
                return NONE;
            }
            int at = type;
            for (int step = 0; ofClass[at] != cls && step < MOST_CLASSES; step++) {
                at = putIn(parent[ofClass[at]], first[at], second[at]);
                if (at == FULL) {
                    return FULL;
                }
            }
            return at;
        }

        /** Whether a CLOSED TYPE GOES FOR another one: 1, 0, or FULL. */
        int goesFor(int one, int two) {
            if (one == two || widens(one, two)) {
                return 1;
            }
            if (isPrimitive(one) || isPrimitive(two)) {
                return 0;
            }
            int seen = seenAs(one, ofClass[two]);
            if (seen == FULL) {
                return FULL;
            }
            return seen == two ? 1 : 0;
        }

        /** COMMON of two CLOSED TYPES; NONE, or FULL. */
        int commonOf(int one, int two) {
            if (one == two || widens(two, one)) {
                return one;
            }
            if (widens(one, two)) {
                return two;
            }
            if (isPrimitive(one) || isPrimitive(two)) {
                return NONE;
            }
            int cls = ofClass[one];
            for (int step = 0; cls != NONE && step < MOST_CLASSES; step++) {
                if (isFrom(ofClass[two], cls)) {
                    int seenOne = seenAs(one, cls);
                    if (seenOne == FULL) {
                        return FULL;
                    }
                    int seenTwo = seenAs(two, cls);
                    if (seenTwo == FULL || seenTwo == seenOne) {
                        return seenTwo;
                    }
                }
                cls = classAbove(cls);
            }
            return NONE;
        }
    }

    private static final class Members {
        int size = 0;
        final int[] ofClass = new int[MOST_MEMBERS];
        final int[] type = new int[MOST_MEMBERS];

        boolean has(int member) {
            return member >= 0 && member < size;
        }

        int add(int cls, int itsType) {
            if (size >= MOST_MEMBERS) {
                return FULL;
            }
            ofClass[size] = cls;
            type[size] = itsType;
            return size++;
        }
    }

    private static final class Functions {
        int size = 0;
        final int[] first = new int[MOST_FUNCTIONS];
        final int[] second = new int[MOST_FUNCTIONS];
        final int[] result = new int[MOST_FUNCTIONS];
        /** The BOUND of each VARIABLE of each FUNCTION, or NONE. */
        final int[] bounds = new int[MOST_FUNCTIONS * MOST_VARIABLES];

        boolean has(int function) {
            return function >= 0 && function < size;
        }

        /** Whether there is such a FUNCTION, with so many parameters. */
        boolean hasWith(int function, int parameters) {
            return has(function) && (second[function] == NONE ? 1 : 2) == parameters;
        }

        int add(int one, int two, int itsResult) {
            if (size >= MOST_FUNCTIONS) {
                return FULL;
            }
            first[size] = one;
            second[size] = two;
            result[size] = itsResult;
            for (int variable = 0; variable < MOST_VARIABLES; variable++) {
                bounds[size * MOST_VARIABLES + variable] = NONE;
            }
            return size++;
        }
    }

    /** OPERATORS, each with what the latest flow() told of it. */
    private static final class Operators {
        int size = 0;
        final int[] kind = new int[MOST_OPERATORS];
        final int[] a = new int[MOST_OPERATORS];
        final int[] b = new int[MOST_OPERATORS];
        final int[] f = new int[MOST_OPERATORS];
        final int[] g = new int[MOST_OPERATORS];
        final int[] c = new int[MOST_OPERATORS];

        final int[] type = new int[MOST_OPERATORS];
        final int[] fault = new int[MOST_OPERATORS];
        final boolean[] risky = new boolean[MOST_OPERATORS];
        /** What each VARIABLE of each OPERATOR'S FUNCTION was bound to, or NONE. */
        final int[] bindings = new int[MOST_OPERATORS * MOST_VARIABLES];

        boolean has(int operator) {
            return operator >= 0 && operator < size;
        }

        int add(int itsKind, int one, int two, int fNumber, int gNumber, int cNumber) {
            if (size >= MOST_OPERATORS) {
                return FULL;
            }
            kind[size] = itsKind;
            a[size] = one;
            b[size] = two;
            f[size] = fNumber;
            g[size] = gNumber;
            c[size] = cNumber;
            tell(size, NONE, NO_FAULT, false);
            bind(size, NONE, NONE);
            return size++;
        }

        void tell(int operator, int itsType, int itsFault, boolean isRisky) {
            type[operator] = itsType;
            fault[operator] = itsFault;
            risky[operator] = isRisky;
        }

        void bind(int operator, int one, int two) {
            bindings[operator * MOST_VARIABLES] = one;
            bindings[operator * MOST_VARIABLES + 1] = two;
        }

        boolean hasTwoInputs(int operator) {
            return kind[operator] == UNION || kind[operator] == ZIP || kind[operator] == JOIN;
        }

        int howManyRisky() {
            int risks = 0;
            for (int operator = 0; operator < size; operator++) {
                if (risky[operator]) {
                    risks++;
                }
            }
            return risks;
        }
    }

    /** A FUNCTION that is PUT TO TYPES: what its VARIABLES are bound to, and the first fault. */
    private static final class Putting {
        private static final int MOST_PAIRS = MOST_TYPES + 2;

        private final Types types;
        private final Functions functions;
        final int[] bound = new int[MOST_VARIABLES];
        int fault = NO_FAULT;

        /** What a class TYPE of the parameters was found alike with, so as not to look again. */
        private final int[] alike = new int[MOST_TYPES];
        /** TYPES of the parameter that are yet to be looked at, and those that came for them. */
        private final int[] wanted = new int[MOST_PAIRS];
        private final int[] given = new int[MOST_PAIRS];

        Putting(Types types, Functions functions) {
            this.types = types;
            this.functions = functions;
        }

        /** What comes; NONE if there is a fault. two is NONE for a FUNCTION of one parameter. */
        int putTo(int function, int one, int two) {
            Arrays.fill(alike, NONE);
            Arrays.fill(bound, NONE);
            fault = take(functions.first[function], one);
            if (fault == NO_FAULT && two != NONE) {
                fault = take(functions.second[function], two);
            }
            if (fault == NO_FAULT) {
                fault = lookAtBounds(function);
            }
            int result = functions.result[function];
            if (fault == NO_FAULT && !isBoundWithin(result)) {
                fault = UNBOUND;
            }
            if (fault != NO_FAULT) {
                return NONE;
            }
            int type = types.putIn(result, bound[0], bound[1]);
            fault = type == FULL ? NO_ROOM : NO_FAULT;
            return type == FULL ? NONE : type;
        }

        private int take(int parameter, int type) {
            if (isPrimitive(parameter)) {
                return type == parameter || widens(type, parameter) ? NO_FAULT : UNLIKE;
            }
            if (isPrimitive(type)) {
                return UNLIKE;
            }
            if (isVariable(parameter)) {
                return bindTo(parameter, type);
            }
            int seen = types.seenAs(type, types.ofClass[parameter]);
            if (seen == FULL) {
                return NO_ROOM;
            }
            return seen == NONE ? UNLIKE : match(parameter, seen);
        }

        private int bindTo(int variable, int type) {
            int which = variable - VARIABLE_0;
            if (bound[which] == NONE) {
                bound[which] = type;
            }
            return bound[which] == type ? NO_FAULT : TORN;
        }

        /**
         * Goes through both class TYPES side by side, from the first ARGUMENT on. A TYPE is wanted
         * anew only if another one comes for it than before, which ends in a fault: far fewer steps
         * than the bound are taken.
         */
        private int match(int parameter, int type) {
            wanted[0] = parameter;
            given[0] = type;
            int height = 1;
            int found = NO_FAULT;
            for (int step = 0; height > 0 && step < MOST_TYPES * MOST_TYPES; step++) {
                height--;
                int want = wanted[height];
                int have = given[height];
                if (isVariable(want)) {
                    found = bindTo(want, have);
                } else if (types.ofClass[want] != types.ofClass[have]) {
                    found = UNLIKE;
                } else if (alike[want] != have) {
                    alike[want] = have;
                    // The last one in is the next one out: the first ARGUMENT has to be last.
                    height = await(types.second[want], types.second[have], height);
                    height = await(types.first[want], types.first[have], height);
                }
                if (found != NO_FAULT) {
                    return found;
                }
            }
            return NO_FAULT;
        }

        private int await(int want, int have, int height) {
            if (want == NONE || have == NONE || height >= MOST_PAIRS) {
                return height;
            }
            wanted[height] = want;
            given[height] = have;
            return height + 1;
        }

        private int lookAtBounds(int function) {
            for (int variable = 0; variable < MOST_VARIABLES; variable++) {
                int limit = functions.bounds[function * MOST_VARIABLES + variable];
                if (bound[variable] != NONE && limit != NONE) {
                    int goes = types.goesFor(bound[variable], limit);
                    if (goes != 1) {
                        return goes == FULL ? NO_ROOM : BEYOND;
                    }
                }
            }
            return NO_FAULT;
        }

        private boolean isBoundWithin(int type) {
            int boundOnes = (bound[0] == NONE ? 0 : 1) | (bound[1] == NONE ? 0 : 2);
            return (types.within[type] & ~boundOnes) == 0;
        }
    }

    /** Finds what comes of an OPERATOR, when those before it have been told. */
    private static final class Worker {
        private final Types types;
        private final Members members;
        private final Operators operators;
        private final Putting putting;
        private int fault = NO_FAULT;
        private boolean risky = false;

        Worker(Types types, Members members, Functions functions, Operators operators) {
            this.types = types;
            this.members = members;
            this.operators = operators;
            putting = new Putting(types, functions);
        }

        /** The TYPE; NONE if there is a fault. */
        int whatComes(int operator) {
            fault = NO_FAULT;
            risky = false;
            int f = operators.f[operator];
            if (operators.kind[operator] == SOURCE) {
                return f;
            }
            int left = operators.type[operators.a[operator]];
            boolean two = operators.hasTwoInputs(operator);
            int right = two ? operators.type[operators.b[operator]] : NONE;
            if (left == NONE || two && right == NONE) {
                return none(EARLIER);
            }
            switch (operators.kind[operator]) {
                case MAP:
                case ZIP:
                    return orFault(putting.putTo(f, left, right), putting.fault);
                case FILTER:
                    return filtered(left, orFault(putting.putTo(f, left, NONE), putting.fault));
                case MEMBER:
                    return memberOf(left, f);
                case UNION:
                    return orFault(types.commonOf(left, right), APART);
                case JOIN:
                    return joined(operator, left, right);
                default:
                    return castTo(left, f);
            }
        }

        void keep(int operator, int type) {
            operators.tell(operator, type, fault, risky);
            int kind = operators.kind[operator];
            if (type != NONE && (kind == MAP || kind == FILTER || kind == ZIP)) {
                operators.bind(operator, putting.bound[0], putting.bound[1]);
            } else {
                operators.bind(operator, NONE, NONE);
            }
        }

        private int none(int reason) {
            fault = reason;
            return NONE;
        }

        /** A TYPE; for NONE the fault is as told, for FULL that there is no room. */
        private int orFault(int type, int reason) {
            if (type >= 0) {
                return type;
            }
            return none(type == FULL ? NO_ROOM : reason);
        }

        private int filtered(int type, int answer) {
            if (answer == NONE) {
                return NONE;
            }
            return answer == BIT ? type : none(UNLIKE);
        }

        private int memberOf(int type, int member) {
            if (isPrimitive(type)) {
                return none(LACKS);
            }
            int seen = orFault(types.seenAs(type, members.ofClass[member]), LACKS);
            if (seen == NONE) {
                return NONE;
            }
            int itsType = members.type[member];
            return orFault(types.putIn(itsType, types.first[seen], types.second[seen]), NO_ROOM);
        }

        private int joined(int operator, int left, int right) {
            int leftKey = memberOf(left, operators.f[operator]);
            if (leftKey == NONE) {
                return NONE;
            }
            int rightKey = memberOf(right, operators.g[operator]);
            if (rightKey == NONE) {
                return NONE;
            }
            int goes = types.goesFor(leftKey, rightKey);
            if (goes == 0) {
                goes = types.goesFor(rightKey, leftKey);
            }
            if (goes != 1) {
                return none(goes == FULL ? NO_ROOM : APART);
            }
            return orFault(types.make(operators.c[operator], left, right), NO_ROOM);
        }

        private int castTo(int type, int target) {
            int goes = types.goesFor(type, target);
            if (goes == 0) {
                goes = types.goesFor(target, type);
                risky = goes == 1 || isNumber(type) && isNumber(target);
            }
            if (goes == FULL) {
                return none(NO_ROOM);
            }
            return goes == 1 || risky ? target : none(APART);
        }

        private static boolean isNumber(int type) {
            return isPrimitive(type) && type != BIT;
        }
    }
}
