/** The sentences on FUNCTIONS, OPERATORS and flow() that name a boundary, each with its own test. */
public final class FlowEdgesTest {
    private static final int NONE = TypeFlow.NONE, BAD = TypeFlow.BAD, FULL = TypeFlow.FULL;
    private static final int BIT = 0, INT = 1, LONG = 2, REAL = 3, V0 = 4, V1 = 5, ANY = 6;
    private static final int SOURCE = 0, MAP = 1, FILTER = 2, MEMBER = 3, UNION = 4, ZIP = 5,
            JOIN = 6, CAST = 7;
    private static final int UNLIKE = 1, TORN = 2, BEYOND = 3, UNBOUND = 4, LACKS = 5, APART = 6,
            EARLIER = 7;
    private static final int[] WILD = {Integer.MIN_VALUE, Integer.MIN_VALUE + 1, -4, FULL, BAD, NONE,
        0, 1, 2, 7, 11, 12, 15, 16, 23, 24, 79, 80, Integer.MAX_VALUE - 1, Integer.MAX_VALUE};

    private static int wrong = 0;
    private static String sentence = "";

    private static void due(String call, int got, int want) {
        if (got != want) {
            wrong++;
            System.out.println(sentence + ": " + call + " answered " + got + ", due is " + want);
        }
    }

    /**
     * CLASSES 1 box (one VARIABLE), 2 pair, 3 leaf, 4 bag with the PARENT box of VARIABLE 0; TYPES 7
     * leaf, 8 and 9 box of VARIABLE 0 and 1, 10 pair of both VARIABLES, 11 box of ANY, 12 box of
     * leaf, 13 bag of ANY, 14 bag of leaf, 15 pair of leaf and ANY, 16 pair of leaf and leaf.
     */
    private static TypeFlow some() {
        TypeFlow x = new TypeFlow();
        x.classOf(1, ANY);
        x.classOf(2, ANY);
        x.classOf(0, ANY);
        x.type(3, 0, 0);
        x.type(1, V0, 0);
        x.type(1, V1, 0);
        x.type(2, V0, V1);
        x.classOf(1, 8);
        x.type(1, ANY, 0);
        x.type(1, 7, 0);
        x.type(4, ANY, 0);
        x.type(4, 7, 0);
        x.type(2, 7, ANY);
        due("TYPES", x.type(2, 7, 7), 16);
        return x;
    }

    private static int source(TypeFlow x, int type) {
        return x.operator(SOURCE, 0, 0, type, 0, 0);
    }

    private static int mapped(TypeFlow x, int type, int parameter, int result) {
        int f = x.function(parameter, NONE, result);
        int map = x.operator(MAP, source(x, type), 0, f, 0, 0);
        x.flow();
        return map;
    }

    private static int zipped(TypeFlow x, int one, int two, int f) {
        int zip = x.operator(ZIP, source(x, one), source(x, two), f, 0, 0);
        x.flow();
        return zip;
    }

    private static void dueComes(String what, TypeFlow x, int operator, int type) {
        due(what + ": comes", x.comes(operator), type);
        due(what + ": reason", x.reason(operator), 0);
    }

    private static void dueFault(String what, TypeFlow x, int operator, int reason) {
        due(what + ": comes", x.comes(operator), NONE);
        due(what + ": reason", x.reason(operator), reason);
        due(what + ": boundTo 0", x.boundTo(operator, 0), NONE);
        due(what + ": boundTo 1", x.boundTo(operator, 1), NONE);
        due(what + ": mayFail", x.mayFail(operator), 0);
    }

    private static void functionsAre0To15() {
        sentence = "FUNCTIONS 0 .. 15 have one parameter or two, and a result, each a TYPE";
        TypeFlow x = some();
        source(x, 7);
        for (int f = 0; f < 16; f++) {
            due("before", x.bound(f, 0, NONE), BAD);
            due("before", x.operator(MAP, 0, 0, f, 0, 0), BAD);
            due("function", x.function(V0, f % 2 == 0 ? V1 : NONE, f == 15 ? 8 : f % 4), f);
            due("so many", x.count(3), f + 1);
            due("bound", x.bound(f, 0, NONE), 1);
        }
        for (int again = 0; again < 3; again++) {
            due("a 17th", x.function(V0, NONE, V0), FULL);
            due("so many", x.count(3), 16);
            due("no FUNCTION 16", x.bound(16, 0, NONE), BAD);
            due("no FUNCTION 16", x.operator(MAP, 0, 0, 16, 0, 0), BAD);
        }
        due("BAD ahead of FULL: first", x.function(17, NONE, V0), BAD);
        due("BAD ahead of FULL: second", x.function(V0, 17, V0), BAD);
        due("BAD ahead of FULL: result", x.function(V0, NONE, 17), BAD);
        int last = x.operator(MAP, 0, 0, 15, 0, 0);
        int first = x.operator(ZIP, 0, 0, 0, 0, 0);
        x.flow();
        dueComes("the last one", x, last, 12);
        dueComes("the first one", x, first, 0);

        sentence = "second is NONE if it has one parameter";
        TypeFlow y = some();
        due("NONE", y.function(ANY, NONE, ANY), 0);
        due("BIT", y.function(ANY, BIT, ANY), 1);
        due("the last TYPE", y.function(16, 16, 16), 2);
        due("BAD", y.function(ANY, BAD, ANY), BAD);
        due("first NONE", y.function(NONE, ANY, ANY), BAD);
        due("result NONE", y.function(ANY, ANY, NONE), BAD);
        source(y, ANY);
        due("MAP with one", y.operator(MAP, 0, 0, 0, 0, 0), 1);
        due("MAP with two", y.operator(MAP, 0, 0, 1, 0, 0), BAD);
        due("FILTER with one", y.operator(FILTER, 0, 0, 0, 0, 0), 2);
        due("FILTER with two", y.operator(FILTER, 0, 0, 1, 0, 0), BAD);
        due("ZIP with one", y.operator(ZIP, 0, 0, 0, 0, 0), BAD);
        due("ZIP with two", y.operator(ZIP, 0, 0, 1, 0, 0), 3);
    }

    private static void primitiveParameter() {
        sentence = "a PRIMITIVE parameter: that one GOES FOR it (else UNLIKE)";
        for (int parameter = BIT; parameter <= REAL; parameter++) {
            for (int type = BIT; type <= 7; type++) {
                if (type == V0 || type == V1) {
                    continue;
                }
                TypeFlow x = some();
                int map = mapped(x, type, parameter, REAL);
                boolean goes = type == parameter || type == INT && parameter >= LONG;
                if (goes) {
                    dueComes(type + " for " + parameter, x, map, REAL);
                } else {
                    dueFault(type + " for " + parameter, x, map, UNLIKE);
                }
                int zip = zipped(x, 7, type, x.function(V0, parameter, V0));
                due("as the second " + type + " for " + parameter, x.reason(zip), goes ? 0 : UNLIKE);
            }
        }
    }

    private static void variableParameter() {
        sentence = "A VARIABLE: it is no PRIMITIVE (else UNLIKE); the VARIABLE is bound to it";
        for (int variable = V0; variable <= V1; variable++) {
            for (int type = BIT; type <= 16; type++) {
                TypeFlow x = some();
                if (x.about(type, 3) == 0) {
                    continue;
                }
                int map = mapped(x, type, variable, variable);
                if (type < ANY) {
                    dueFault("of " + type, x, map, UNLIKE);
                } else {
                    dueComes("of " + type, x, map, type);
                    due("bound", x.boundTo(map, variable - V0), type);
                    due("the other one", x.boundTo(map, V1 - variable), NONE);
                }
            }
        }
        sentence = "or was bound to just it (else TORN)";
        TypeFlow x = some();
        int same = x.function(V1, V1, V1);
        dueComes("just it", x, zipped(x, 12, 12, same), 12);
        dueFault("another one", x, zipped(x, 12, 11, same), TORN);
        dueFault("one that goes for it", x, zipped(x, 11, 13, same), TORN);
        dueFault("one for which it goes", x, zipped(x, 7, ANY, same), TORN);
        dueFault("a PRIMITIVE", x, zipped(x, 7, INT, same), UNLIKE);
        dueFault("two PRIMITIVES", x, zipped(x, INT, INT, same), UNLIKE);
        TypeFlow y = some();
        int within = y.function(V0, 8, BIT);
        dueComes("just it, within", y, zipped(y, 7, 12, within), BIT);
        dueComes("just it, SEEN", y, zipped(y, 7, 14, within), BIT);
        dueFault("another one, within", y, zipped(y, ANY, 12, within), TORN);
        int first = y.function(8, V0, BIT);
        dueFault("another one, after it", y, zipped(y, 12, ANY, first), TORN);
        dueComes("just it, after it", y, zipped(y, 12, 7, first), BIT);
    }

    private static void classParameter() {
        sentence = "A class TYPE: it is SEEN AS that CLASS (else UNLIKE, also if it is a PRIMITIVE)";
        TypeFlow x = some();
        for (int type = BIT; type <= REAL; type++) {
            dueFault("PRIMITIVE for box", x, mapped(x, type, 8, BIT), UNLIKE);
            dueFault("PRIMITIVE for ANY", x, mapped(x, type, ANY, BIT), UNLIKE);
        }
        TypeFlow y = some();
        dueComes("itself", y, mapped(y, 12, 8, V0), 7);
        dueComes("SEEN", y, mapped(y, 14, 8, V0), 7);
        dueComes("as ANY", y, mapped(y, 14, ANY, 16), 16);
        dueFault("one aside", y, mapped(y, 7, 8, BIT), UNLIKE);
        dueFault("one above", y, mapped(y, 12, 13, BIT), UNLIKE);
        dueFault("ANY for box", y, mapped(y, ANY, 8, BIT), UNLIKE);

        sentence = "ARGUMENT by ARGUMENT, from the first on: .. of the same CLASS (else UNLIKE)";
        TypeFlow z = some();
        int bagBox = z.type(4, 12, 0);
        int boxBag = z.type(1, 14, 0);
        int boxBox = z.type(1, 8, 0);
        dueComes("box of box", z, mapped(z, bagBox, boxBox, V0), 7);
        dueFault("an ARGUMENT is not SEEN", z, mapped(z, boxBag, boxBox, V0), UNLIKE);
        dueFault("an ARGUMENT of another CLASS", z, mapped(z, 12, 11, BIT), UNLIKE);
        dueComes("the ARGUMENT itself", z, mapped(z, 14, 12, BIT), BIT);
        int pairV = z.type(2, V0, V0);
        dueFault("TORN by the second", z, mapped(z, 15, pairV, BIT), TORN);
        dueComes("twice the same", z, mapped(z, 16, pairV, V0), 7);
        TypeFlow w = some();
        int tornThenUnlike = w.type(2, w.type(2, V0, V0), 7);
        int unlikeThenTorn = w.type(2, 7, w.type(2, V0, V0));
        int it = w.type(2, 15, ANY);
        int turned = w.type(2, ANY, 15);
        dueFault("TORN is first", w, mapped(w, it, tornThenUnlike, BIT), TORN);
        dueFault("UNLIKE is first", w, mapped(w, turned, unlikeThenTorn, BIT), UNLIKE);
    }

    private static void fromTheFirstOn() {
        sentence = "PUT TO one CLOSED TYPE for each parameter, from the first on";
        TypeFlow x = some();
        int pairV = x.type(2, V0, V0);
        dueFault("TORN, then UNLIKE", x, zipped(x, 15, BIT, x.function(pairV, INT, BIT)), TORN);
        dueFault("UNLIKE, then TORN", x, zipped(x, BIT, 15, x.function(INT, pairV, BIT)), UNLIKE);
        int f = x.function(V0, V0, V1);
        x.bound(f, 0, 11);
        dueFault("TORN, then BEYOND", x, zipped(x, 7, ANY, f), TORN);
        dueFault("BEYOND, then UNBOUND", x, zipped(x, 7, 7, f), BEYOND);
        dueFault("UNBOUND alone", x, zipped(x, 13, 13, f), UNBOUND);
        int unlike = x.function(V0, BIT, V1);
        x.bound(unlike, 0, 11);
        dueFault("UNLIKE, then BEYOND", x, zipped(x, 7, 7, unlike), UNLIKE);
    }

    private static void eachPuttingAnew() {
        sentence = "the VARIABLE is bound to it: by each OPERATOR anew";
        TypeFlow x = some();
        int wide = x.type(2, 10, 8);
        int[] rows = {source(x, x.type(2, 15, 12)), source(x, x.type(2, 16, 12)),
            source(x, x.type(2, x.type(2, ANY, 7), 11))};
        int[] first = {7, 7, ANY};
        int[] second = {ANY, 7, 7};
        int f = x.function(wide, NONE, 10);
        int g = x.function(x.type(2, V1, V0), NONE, V1);
        int none = x.function(ANY, NONE, BIT);
        int[] maps = new int[21];
        for (int i = 0; i < maps.length; i++) {
            int by = i % 3 == 0 ? f : i % 3 == 1 ? g : none;
            maps[i] = x.operator(MAP, rows[i / 3 % 3], 0, by, 0, 0);
        }
        due("flow", x.flow(), 24);
        for (int i = 0; i < maps.length; i++) {
            int row = i / 3 % 3;
            int type = x.comes(rows[row]);
            int[] zero = {first[row], x.about(type, 2), NONE};
            int[] one = {second[row], x.about(type, 1), NONE};
            due("VARIABLE 0 of " + i, x.boundTo(maps[i], 0), zero[i % 3]);
            due("VARIABLE 1 of " + i, x.boundTo(maps[i], 1), one[i % 3]);
        }
    }

    private static void bounds() {
        sentence = "for VARIABLE 0, then 1, if it is bound and has a BOUND: it GOES FOR that (else"
                + " BEYOND)";
        for (int variable = 0; variable < 2; variable++) {
            TypeFlow x = some();
            int f = x.function(V0, V1, BIT);
            due("BOUND box of ANY", x.bound(f, variable, 11), 1);
            int[] there = {11, 13, 12, 14, 7, ANY};
            boolean[] within = {true, true, false, false, false, false};
            for (int i = 0; i < there.length; i++) {
                int zip = zipped(x, variable == 0 ? there[i] : 7, variable == 1 ? there[i] : 7, f);
                due("of " + there[i], x.reason(zip), within[i] ? 0 : BEYOND);
                x.clear();
            }
            due("ANY", x.bound(f, variable, ANY), 1);
            due("all go for ANY", x.reason(zipped(x, 7, 14, f)), 0);
            due("NONE", x.bound(f, variable, NONE), 1);
            due("no BOUND", x.reason(zipped(x, 7, 14, f)), 0);
            due("NONE again", x.bound(f, variable, NONE), 1);
        }
        TypeFlow x = some();
        int f = x.function(V1, NONE, V1);
        x.bound(f, 0, 12);
        int map = x.operator(MAP, source(x, 7), 0, f, 0, 0);
        x.flow();
        dueComes("a BOUND of one that is not bound", x, map, 7);
        int g = x.function(8, NONE, BIT);
        x.bound(g, 0, 11);
        int inner = x.operator(MAP, source(x, 12), 0, g, 0, 0);
        x.flow();
        dueFault("bound within", x, inner, BEYOND);
        x.bound(f, 1, 12);
        dueComes("no flow since", x, map, 7);
        x.flow();
        dueFault("after flow", x, map, BEYOND);
        due("each FUNCTION has its own", x.reason(mapped(x, 7, V1, V1)), 0);
        TypeFlow y = some();
        int bag = y.type(4, 15, 0);
        int before = y.count(1);
        int h = y.function(V0, V1, BIT);
        y.bound(h, 0, 12);
        y.bound(h, 1, 12);
        dueFault("VARIABLE 0 is beyond", y, zipped(y, 7, bag, h), BEYOND);
        due("VARIABLE 1 is not looked at then", y.count(1), before);
        dueFault("VARIABLE 1 is beyond", y, zipped(y, 12, bag, h), BEYOND);
        due("it was SEEN", y.count(1), before + 1);
    }

    private static void unbound() {
        sentence = "UNBOUND, and nothing is made: a VARIABLE of it is not bound";
        TypeFlow x = some();
        int wide = x.type(2, 8, 9);
        int wideTurned = x.type(2, 9, 8);
        int before = x.count(1);
        dueFault("VARIABLE 1 alone", x, mapped(x, 16, V0, V1), UNBOUND);
        dueFault("VARIABLE 0 alone", x, mapped(x, 16, V1, V0), UNBOUND);
        dueFault("VARIABLE 1, after what could be made", x, mapped(x, 16, V0, wide), UNBOUND);
        dueFault("VARIABLE 1, ahead of it", x, mapped(x, 16, V0, wideTurned), UNBOUND);
        dueFault("VARIABLE 0", x, mapped(x, 16, V1, wide), UNBOUND);
        dueFault("none is bound", x, mapped(x, INT, INT, wide), UNBOUND);
        for (int result : new int[] {V0, V1, 8, 9}) {
            dueFault("none is bound, for " + result, x, mapped(x, INT, INT, result), UNBOUND);
        }
        due("nothing is made", x.count(1), before);
        dueComes("without VARIABLES", x, mapped(x, INT, INT, 14), 14);
        dueComes("a PRIMITIVE", x, mapped(x, INT, INT, BIT), BIT);
    }

    private static void operatorsAre0To23() {
        sentence = "OPERATORS 0 .. 23 have a KIND, INPUTS (OPERATORS before them), and numbers";
        TypeFlow x = some();
        due("no INPUT yet", x.operator(UNION, 0, 0, 0, 0, 0), BAD);
        due("the first one", source(x, INT), 0);
        for (int operator = 1; operator < 24; operator++) {
            due("itself is no INPUT", x.operator(UNION, 0, operator, 0, 0, 0), BAD);
            due("comes", x.comes(operator), BAD);
            due("the one before is one", x.operator(UNION, operator - 1, 0, 0, 0, 0), operator);
            due("so many", x.count(4), operator + 1);
            due("comes", x.comes(operator), NONE);
        }
        for (int again = 0; again < 3; again++) {
            due("a 25th", source(x, INT), FULL);
            due("a 25th", x.operator(UNION, 23, 23, 0, 0, 0), FULL);
            due("BAD ahead of FULL", x.operator(UNION, 23, 24, 0, 0, 0), BAD);
            due("BAD ahead of FULL", source(x, V0), BAD);
            due("BAD ahead of FULL", x.operator(8, 0, 0, INT, 0, 0), BAD);
            due("so many", x.count(4), 24);
            due("no OPERATOR 24", x.comes(24), BAD);
        }
        due("flow", x.flow(), 24);
        dueComes("the last one", x, 23, INT);
    }

    /** For each KIND: a, b, f, g, c, and which of them it has. */
    private static final int[][] KINDS = {
        {0, 0, 14, 0, 0}, {0, 0, 0, 0, 0}, {0, 0, 1, 0, 0}, {0, 0, 0, 0, 0}, {0, 1, 0, 0, 0},
        {0, 1, 2, 0, 0}, {0, 1, 1, 1, 2}, {0, 0, 11, 0, 0}};
    private static final boolean[][] HAS = {
        {false, false, true, false, false}, {true, false, true, false, false},
        {true, false, true, false, false}, {true, false, true, false, false},
        {true, true, false, false, false}, {true, true, true, false, false},
        {true, true, true, true, true}, {true, false, true, false, false}};
    private static final int[] COMES = {14, 7, 14, 7, 12, 7, 17, NONE};

    private static TypeFlow forEachKind() {
        TypeFlow x = some();
        x.function(8, NONE, V0);
        x.function(V1, NONE, BIT);
        x.function(8, 8, V0);
        x.member(1, V0);
        x.member(1, INT);
        source(x, 14);
        source(x, 12);
        return x;
    }

    private static int operator(TypeFlow x, int kind, int[] n) {
        return x.operator(kind, n[0], n[1], n[2], n[3], n[4]);
    }

    private static void onlyWhatItsKindHas() {
        sentence = "only what its KIND has is looked at";
        for (int kind = 0; kind < 8; kind++) {
            for (int place = 0; place < 5; place++) {
                for (int number : WILD) {
                    TypeFlow x = forEachKind();
                    int[] numbers = KINDS[kind].clone();
                    due("KIND " + kind, operator(x, kind, numbers), 2);
                    numbers[place] = number;
                    if (HAS[kind][place]) {
                        continue;
                    }
                    String name = "KIND " + kind + ", place " + place + ", " + number;
                    due(name, operator(x, kind, numbers), 3);
                    x.flow();
                    due(name + ": comes", x.comes(3), COMES[kind]);
                    due(name + ": as without", x.comes(3), x.comes(2));
                    due(name + ": reason", x.reason(3), COMES[kind] == NONE ? APART : 0);
                }
            }
        }
        sentence = "BAD: what its KIND has is looked at";
        for (int kind = 0; kind < 8; kind++) {
            for (int place = 0; place < 5; place++) {
                for (int number : new int[] {Integer.MIN_VALUE, NONE, 80, Integer.MAX_VALUE}) {
                    TypeFlow x = forEachKind();
                    int[] numbers = KINDS[kind].clone();
                    numbers[place] = number;
                    due("KIND " + kind + ", place " + place + ", " + number,
                            operator(x, kind, numbers), HAS[kind][place] ? BAD : 2);
                    due("OPERATORS", x.count(4), HAS[kind][place] ? 2 : 3);
                }
            }
        }
        for (int kind : new int[] {Integer.MIN_VALUE, -2, -1, 8, 9, Integer.MAX_VALUE}) {
            due("KIND " + kind, forEachKind().operator(kind, 0, 0, 0, 0, 2), BAD);
        }
    }

    private static void filter() {
        sentence = "2 FILTER: that of a; the FUNCTION, PUT TO it, gives BIT (else UNLIKE)";
        for (int result = BIT; result <= ANY; result++) {
            TypeFlow x = some();
            int f = x.function(8, NONE, result);
            int filter = x.operator(FILTER, source(x, 14), 0, f, 0, 0);
            x.flow();
            if (result == BIT) {
                dueComes("BIT", x, filter, 14);
                due("boundTo", x.boundTo(filter, 0), 7);
            } else {
                dueFault("result " + result, x, filter, result == V1 ? UNBOUND : UNLIKE);
            }
        }
        TypeFlow x = some();
        int f = x.function(INT, NONE, BIT);
        int filter = x.operator(FILTER, source(x, INT), 0, f, 0, 0);
        int unlike = x.operator(FILTER, source(x, LONG), 0, f, 0, 0);
        x.flow();
        dueComes("a PRIMITIVE", x, filter, INT);
        dueFault("UNLIKE when it is PUT", x, unlike, UNLIKE);
    }

    private static void member() {
        sentence = "3 MEMBER: SEEN AS the CLASS of MEMBER m (else LACKS, also of a PRIMITIVE)";
        TypeFlow x = some();
        int ofAny = x.member(0, LONG);
        int ofBox = x.member(1, V0);
        int ofBag = x.member(4, 8);
        int[] rows = {BIT, INT, LONG, REAL, ANY, 7, 12, 14};
        int[][] comes = {{NONE, NONE, NONE}, {NONE, NONE, NONE}, {NONE, NONE, NONE},
            {NONE, NONE, NONE}, {LONG, NONE, NONE}, {LONG, NONE, NONE}, {LONG, 7, NONE},
            {LONG, 7, 12}};
        int[] members = {ofAny, ofBox, ofBag};
        for (int i = 0; i < rows.length; i++) {
            x.clear();
            source(x, rows[i]);
            for (int m = 0; m < 3; m++) {
                int member = x.operator(MEMBER, 0, 0, members[m], 0, 0);
                x.flow();
                due("of " + rows[i] + ", " + m, x.comes(member), comes[i][m]);
                due("of " + rows[i] + ", reason " + m, x.reason(member),
                        comes[i][m] == NONE ? LACKS : 0);
            }
        }
    }

    private static void union() {
        sentence = "4 UNION a, b: COMMON (else APART)";
        TypeFlow x = some();
        int[][] rows = {{INT, INT, INT}, {INT, LONG, LONG}, {REAL, INT, REAL}, {LONG, REAL, NONE},
            {BIT, INT, NONE}, {BIT, BIT, BIT}, {ANY, INT, NONE}, {INT, 7, NONE}, {14, 12, 12},
            {12, 13, ANY}, {7, 12, ANY}};
        for (int[] row : rows) {
            x.clear();
            int union = x.operator(UNION, source(x, row[0]), source(x, row[1]), 0, 0, 0);
            x.flow();
            due("of " + row[0] + ", " + row[1], x.comes(union), row[2]);
            due("of " + row[0] + ", " + row[1] + ": reason", x.reason(union),
                    row[2] == NONE ? APART : 0);
        }
    }

    private static void join() {
        sentence = "6 JOIN: two keys: one GOES FOR the other (else APART)";
        int[] keys = {BIT, INT, LONG, REAL, ANY, 7, 11, 12, 13, 14};
        for (int one : keys) {
            for (int two : keys) {
                TypeFlow x = some();
                int m = x.member(3, one);
                int n = x.member(1, two);
                int join = x.operator(JOIN, source(x, 7), source(x, 12), m, n, 2);
                boolean alike = x.goes(one, two) == 1 || x.goes(two, one) == 1;
                int at = x.count(1);
                x.flow();
                due(one + ", " + two + ": comes", x.comes(join), alike ? at : NONE);
                due(one + ", " + two + ": reason", x.reason(join), alike ? 0 : APART);
                due("TYPES", x.count(1), alike ? at + 1 : at);
                if (alike) {
                    due("CLASS", x.about(at, 0), 2);
                    due("of a", x.about(at, 1), 7);
                    due("of b", x.about(at, 2), 12);
                }
            }
        }
        sentence = "6 JOIN: of a by m, then of b by n (else LACKS)";
        TypeFlow x = some();
        int ofLeaf = x.member(3, INT);
        int ofBox = x.member(1, V0);
        int ofAny = x.member(0, INT);
        int leaf = source(x, 7);
        int box = source(x, 12);
        int number = source(x, INT);
        int[] lacking = {x.operator(JOIN, box, leaf, ofLeaf, ofLeaf, 2),
            x.operator(JOIN, leaf, box, ofLeaf, ofLeaf, 2),
            x.operator(JOIN, number, leaf, ofAny, ofLeaf, 2),
            x.operator(JOIN, leaf, number, ofLeaf, ofAny, 2),
            x.operator(JOIN, leaf, leaf, ofBox, ofBox, 2)};
        int fits = x.operator(JOIN, box, leaf, ofAny, ofLeaf, 2);
        int apart = x.operator(JOIN, box, leaf, ofBox, ofLeaf, 2);
        x.flow();
        for (int join : lacking) {
            dueFault("OPERATOR " + join, x, join, LACKS);
        }
        dueComes("both have it", x, fits, 17);
        dueFault("a class TYPE and INT", x, apart, APART);
        sentence = "a TYPE of CLASS c, which has two VARIABLES";
        for (int cls = 0; cls < 5; cls++) {
            due("CLASS " + cls, x.operator(JOIN, leaf, leaf, ofLeaf, ofLeaf, cls) == BAD ? 0 : 1,
                    cls == 2 ? 1 : 0);
        }
    }

    private static void castTo() {
        sentence = "7 CAST a, u: u, if that of a GOES FOR it; u, and it MAY FAIL, if u GOES FOR that"
                + " of a, or a PRIMITIVE other than BIT is cast to another such one; else APART";
        int[] types = {BIT, INT, LONG, REAL, ANY, 7, 11, 12, 13, 14};
        for (int one : types) {
            for (int two : types) {
                TypeFlow x = some();
                int cast = x.operator(CAST, source(x, one), 0, two, 0, 0);
                boolean numbers = one >= INT && one <= REAL && two >= INT && two <= REAL;
                boolean fits = x.goes(one, two) == 1;
                boolean mayFail = !fits && (numbers || x.goes(two, one) == 1);
                x.flow();
                String name = "from " + one + " to " + two;
                due(name, x.comes(cast), fits || mayFail ? two : NONE);
                due(name + ": reason", x.reason(cast), fits || mayFail ? 0 : APART);
                due(name + ": mayFail", x.mayFail(cast), mayFail ? 1 : 0);
                due(name + ": count", x.count(5), mayFail ? 1 : 0);
                due(name + ": cast", x.cast(0), mayFail ? cast : NONE);
            }
        }
        TypeFlow x = some();
        int[][] byHand = {{LONG, REAL, 1}, {REAL, LONG, 1}, {LONG, INT, 1}, {INT, REAL, 0},
            {ANY, 14, 1}, {12, 14, 1}, {14, 12, 0}, {14, 14, 0}};
        for (int[] row : byHand) {
            x.clear();
            x.operator(CAST, source(x, row[0]), 0, row[1], 0, 0);
            due("flow", x.flow(), 2);
            due("by hand " + row[0] + ", " + row[1], x.mayFail(1), row[2]);
        }
    }

    private static void earlier() {
        sentence = "7 EARLIER (an INPUT has none)";
        TypeFlow x = some();
        int f = x.function(V0, NONE, BIT);
        int g = x.function(V0, V1, BIT);
        int m = x.member(0, INT);
        int good = source(x, 7);
        int bad = x.operator(CAST, good, 0, INT, 0, 0);
        int[] late = {x.operator(MAP, bad, 0, f, 0, 0), x.operator(FILTER, bad, 0, f, 0, 0),
            x.operator(MEMBER, bad, 0, m, 0, 0), x.operator(CAST, bad, 0, ANY, 0, 0),
            x.operator(UNION, bad, good, 0, 0, 0), x.operator(UNION, good, bad, 0, 0, 0),
            x.operator(ZIP, bad, good, g, 0, 0), x.operator(ZIP, good, bad, g, 0, 0),
            x.operator(JOIN, bad, good, m, m, 2), x.operator(JOIN, good, bad, m, m, 2),
            x.operator(UNION, bad, bad, 0, 0, 0)};
        // What is not looked at: b of those with one INPUT, and both of SOURCE.
        int[] fine = {x.operator(MAP, good, bad, f, 0, 0), x.operator(FILTER, good, bad, f, 0, 0),
            x.operator(MEMBER, good, bad, m, 0, 0), x.operator(CAST, good, bad, ANY, 0, 0),
            x.operator(SOURCE, bad, bad, ANY, 0, 0)};
        int after = x.operator(UNION, late[0], good, 0, 0, 0);
        int before = x.count(1);
        due("flow", x.flow(), 1 + fine.length);
        dueFault("the first one", x, bad, APART);
        for (int operator : late) {
            dueFault("OPERATOR " + operator, x, operator, EARLIER);
        }
        for (int operator : fine) {
            due("not looked at " + operator, x.reason(operator), 0);
        }
        dueFault("after EARLIER", x, after, EARLIER);
        due("nothing is made", x.count(1), before);
        TypeFlow y = some();
        source(y, INT);
        y.operator(CAST, 0, 0, BIT, 0, 0);
        for (int operator = 2; operator < 24; operator++) {
            y.operator(UNION, operator - 1, 0, 0, 0, 0);
        }
        due("flow", y.flow(), 1);
        due("the first fault", y.reason(1), APART);
        for (int operator = 2; operator < 24; operator++) {
            due("down to the last one", y.reason(operator), EARLIER);
        }
    }

    private static void firstFault() {
        sentence = "of the first fault the reason";
        TypeFlow x = some();
        int lacks = x.member(3, INT);
        int g = x.function(INT, INT, BIT);
        int one = source(x, 12);
        int apart = x.operator(CAST, one, 0, BIT, 0, 0);
        int[] both = {x.operator(JOIN, one, apart, lacks, lacks, 2),
            x.operator(ZIP, one, apart, g, 0, 0)};
        x.flow();
        for (int operator : both) {
            dueFault("EARLIER ahead of the others", x, operator, EARLIER);
        }
    }

    private static void sinceItWasMade() {
        sentence = "or there was no flow() since it was made";
        TypeFlow x = some();
        int f = x.function(V0, NONE, V0);
        int g = x.function(V0, V1, V0);
        due("flow of none", x.flow(), 0);
        int rows = source(x, 12);
        int[] made = {rows, x.operator(MAP, rows, 0, f, 0, 0), x.operator(CAST, rows, 0, 14, 0, 0),
            x.operator(CAST, rows, 0, INT, 0, 0), x.operator(ZIP, rows, rows, g, 0, 0)};
        dueNothingYet(x, made);
        due("CASTS", x.count(5), 0);
        due("flow", x.flow(), 4);
        dueComes("SOURCE", x, rows, 12);
        due("MAP", x.boundTo(made[1], 0), 12);
        due("CAST", x.mayFail(made[2]), 1);
        due("APART", x.reason(made[3]), APART);
        int[] later = {source(x, 14), x.operator(MAP, rows, 0, f, 0, 0),
            x.operator(CAST, rows, 0, 14, 0, 0), x.operator(CAST, rows, 0, INT, 0, 0)};
        dueNothingYet(x, later);
        due("CASTS of the latest flow", x.count(5), 1);
        due("no second CAST", x.cast(1), NONE);
        dueComes("an earlier one keeps it", x, rows, 12);
        due("flow", x.flow(), 7);
        due("both CASTS", x.count(5), 2);
        due("the second CAST", x.cast(1), later[2]);
        due("APART", x.reason(later[3]), APART);
    }

    private static void dueNothingYet(TypeFlow x, int[] operators) {
        for (int operator : operators) {
            due("comes " + operator, x.comes(operator), NONE);
            due("reason " + operator, x.reason(operator), 0);
            due("mayFail " + operator, x.mayFail(operator), 0);
            due("boundTo " + operator, x.boundTo(operator, 0), NONE);
            due("boundTo " + operator, x.boundTo(operator, 1), NONE);
        }
    }

    private static void byTheLatestFlow() {
        sentence = "by the latest flow()";
        TypeFlow x = some();
        int f = x.function(V0, NONE, V0);
        int rows = source(x, 12);
        int map = x.operator(MAP, rows, 0, f, 0, 0);
        int cast = x.operator(CAST, map, 0, 14, 0, 0);
        for (int again = 0; again < 3; again++) {
            x.bound(f, 0, NONE);
            due("flow", x.flow(), 3);
            x.bound(f, 0, 7);
            dueComes("MAP", x, map, 12);
            due("bound", x.boundTo(map, 0), 12);
            due("mayFail", x.mayFail(cast), 1);
            due("count", x.count(5), 1);
            due("cast", x.cast(0), cast);
            due("flow", x.flow(), 1);
            x.bound(f, 0, NONE);
            dueFault("MAP", x, map, BEYOND);
            dueFault("CAST", x, cast, EARLIER);
            due("count", x.count(5), 0);
            due("cast", x.cast(0), NONE);
        }
    }

    private static void kthCast() {
        sentence = "The k-th CAST that MAY FAIL; NONE";
        TypeFlow x = new TypeFlow();
        for (int k : WILD) {
            due("no OPERATOR, " + k, x.cast(k), NONE);
        }
        source(x, REAL);
        for (int operator = 1; operator < 24; operator++) {
            x.operator(CAST, 0, 0, operator % 3 == 0 ? REAL : operator % 3 == 1 ? INT : BIT, 0, 0);
        }
        for (int k : WILD) {
            due("no flow, " + k, x.cast(k), NONE);
        }
        due("flow", x.flow(), 16);
        due("so many", x.count(5), 8);
        for (int k = 0; k < 8; k++) {
            due("cast " + k, x.cast(k), 1 + 3 * k);
        }
        for (int k : WILD) {
            due("cast " + k, x.cast(k), k < 0 || k > 7 ? NONE : 1 + 3 * k);
        }
        TypeFlow y = new TypeFlow();
        source(y, LONG);
        for (int operator = 1; operator < 24; operator++) {
            y.operator(CAST, 0, 0, INT, 0, 0);
        }
        due("flow", y.flow(), 24);
        due("all but the SOURCE", y.count(5), 23);
        due("the last one", y.cast(22), 23);
        due("one more", y.cast(23), NONE);
    }

    private static void boundTo() {
        sentence = "NONE: it was not, or it has no TYPE";
        TypeFlow x = some();
        int box = source(x, 12);
        int leaf = source(x, 7);
        int m = x.member(0, INT);
        int f = x.function(8, NONE, BIT);
        int g = x.function(9, V0, INT);
        int map = x.operator(MAP, box, 0, f, 0, 0);
        int filter = x.operator(FILTER, box, 0, f, 0, 0);
        int zip = x.operator(ZIP, box, box, g, 0, 0);
        int noFilter = x.operator(FILTER, box, 0, x.function(V0, NONE, V0), 0, 0);
        int unbound = x.operator(MAP, box, 0, x.function(V0, NONE, V1), 0, 0);
        int[] others = {box, x.operator(MEMBER, leaf, 0, m, 0, 0),
            x.operator(UNION, box, leaf, 0, 0, 0), x.operator(JOIN, box, leaf, m, m, 2),
            x.operator(CAST, box, 0, ANY, 0, 0)};
        x.flow();
        due("MAP, VARIABLE 0", x.boundTo(map, 0), 7);
        due("MAP, VARIABLE 1", x.boundTo(map, 1), NONE);
        due("FILTER, VARIABLE 0", x.boundTo(filter, 0), 7);
        due("FILTER, VARIABLE 1", x.boundTo(filter, 1), NONE);
        due("ZIP, VARIABLE 0", x.boundTo(zip, 0), 12);
        due("ZIP, VARIABLE 1", x.boundTo(zip, 1), 7);
        dueFault("FILTER that has no TYPE", x, noFilter, UNLIKE);
        dueFault("MAP that has no TYPE", x, unbound, UNBOUND);
        for (int operator : others) {
            due("has a TYPE", x.reason(operator), 0);
            due("no FUNCTION " + operator, x.boundTo(operator, 0), NONE);
            due("no FUNCTION " + operator, x.boundTo(operator, 1), NONE);
        }
        for (int variable : WILD) {
            boolean told = variable == 0 || variable == 1;
            due("VARIABLE " + variable, x.boundTo(map, variable) == BAD ? 0 : 1, told ? 1 : 0);
        }
    }

    private static void clear() {
        sentence = "All OPERATORS are gone: how many";
        for (int many = 0; many <= 24; many++) {
            TypeFlow x = some();
            int f = x.function(V0, NONE, V0);
            int m = x.member(0, INT);
            for (int operator = 0; operator < many; operator++) {
                if (operator == 0) {
                    source(x, 12);
                } else if (operator % 3 == 0) {
                    x.operator(CAST, 0, 0, 14, 0, 0);
                } else {
                    x.operator(operator % 3 == 1 ? MAP : CAST, 0, 0, operator % 3 == 1 ? f : INT, 0, 0);
                }
            }
            x.flow();
            int[] counts = {x.count(0), x.count(1), x.count(2), x.count(3)};
            due("clear", x.clear(), many);
            due("clear again", x.clear(), 0);
            due("none", x.count(4), 0);
            due("no CAST", x.count(5), 0);
            for (int number : WILD) {
                due("comes " + number, x.comes(number), BAD);
                due("reason " + number, x.reason(number), BAD);
                due("mayFail " + number, x.mayFail(number), BAD);
                due("boundTo " + number, x.boundTo(number, 0), BAD);
                due("cast " + number, x.cast(number), NONE);
                due("INPUT " + number, x.operator(MAP, number, 0, f, 0, 0), BAD);
            }
            due("flow of none", x.flow(), 0);
            for (int what = 0; what < 4; what++) {
                due("what is no OPERATOR stays, " + what, x.count(what), counts[what]);
            }
            for (int operator = 0; operator < 24; operator++) {
                due("from 0 on again", source(x, 7), operator);
            }
            int[] all = new int[24];
            for (int operator = 0; operator < 24; operator++) {
                all[operator] = operator;
            }
            dueNothingYet(x, all);
            due("no CAST yet", x.count(5), 0);
            due("a 25th", source(x, 7), FULL);
            due("flow", x.flow(), 24);
            due("and gone again", x.clear(), 24);
            due("the MEMBER is there", x.operator(MEMBER, source(x, 7), 0, m, 0, 0), 1);
            due("the FUNCTION is there", x.operator(MAP, 0, 0, f, 0, 0), 2);
            due("flow", x.flow(), 3);
        }
    }

    private static void typesStayAfterClear() {
        sentence = "(TYPES that are made stay.)";
        TypeFlow x = some();
        int f = x.function(V0, NONE, 8);
        source(x, 16);
        x.operator(MAP, 0, 0, f, 0, 0);
        due("flow", x.flow(), 2);
        due("made", x.count(1), 18);
        due("flow again", x.flow(), 2);
        due("made once", x.count(1), 18);
        x.clear();
        due("after clear", x.count(1), 18);
        due("it is there", x.type(1, 16, 0), 17);
    }

    private static void counts() {
        sentence = "what = 0 CLASSES, 1 TYPES, 2 MEMBERS, 3 FUNCTIONS, 4 OPERATORS, 5 CASTS that MAY"
                + " FAIL by the latest flow(). BAD";
        TypeFlow x = some();
        x.member(0, INT);
        x.member(0, INT);
        x.function(INT, NONE, INT);
        x.function(INT, NONE, INT);
        x.function(INT, NONE, INT);
        source(x, LONG);
        x.operator(CAST, 0, 0, INT, 0, 0);
        x.operator(CAST, 0, 0, LONG, 0, 0);
        x.operator(CAST, 0, 0, BIT, 0, 0);
        x.flow();
        int[] counts = {5, 17, 2, 3, 4, 1};
        for (int what : WILD) {
            due("count " + what, x.count(what), what < 0 || what > 5 ? BAD : counts[what]);
        }
        for (int what = 0; what < 6; what++) {
            due("count " + what, x.count(what), counts[what]);
        }
    }

    private static void used512Times() {
        sentence = "An object is used for at most 512 calls";
        TypeFlow x = new TypeFlow();
        int calls = 0;
        due("classOf", x.classOf(2, ANY), 1);
        due("type", x.type(1, V0, V1), 7);
        due("function", x.function(V0, V1, 7), 0);
        due("SOURCE", source(x, ANY), 0);
        calls = 4;
        for (int operator = 1; operator < 24; operator++, calls++) {
            due("ZIP", x.operator(ZIP, operator - 1, operator - 1, 0, 0, 0), operator);
        }
        while (calls < 510) {
            due("flow, call " + calls, x.flow(), 24);
            due("comes, call " + calls, x.comes(23), 30);
            due("count, call " + calls, x.count(1), 31);
            calls += 3;
        }
        while (calls < 512) {
            due("boundTo, call " + calls, x.boundTo(23, 1), 29);
            calls++;
        }
        TypeFlow y = new TypeFlow();
        for (int call = 0; call < 512; call++) {
            int round = call % 26;
            due("call " + call, round < 24 ? source(y, round % 4) : round == 24 ? y.flow() : y.clear(),
                    round < 24 ? round : 24);
        }
        TypeFlow z = new TypeFlow();
        for (int call = 0; call < 512; call++) {
            due("classOf, call " + call, z.classOf(call % 3, ANY), call < 11 ? call + 1 : FULL);
        }
        TypeFlow w = new TypeFlow();
        for (int call = 0; call < 511; call++) {
            due("BAD, call " + call, w.classOf(call + 3, ANY), BAD);
        }
        due("and nothing was made", w.count(0), 1);
    }

    public static void main(String[] args) {
        functionsAre0To15();
        primitiveParameter();
        variableParameter();
        classParameter();
        fromTheFirstOn();
        eachPuttingAnew();
        bounds();
        unbound();
        operatorsAre0To23();
        onlyWhatItsKindHas();
        filter();
        member();
        union();
        join();
        castTo();
        earlier();
        firstFault();
        sinceItWasMade();
        byTheLatestFlow();
        kthCast();
        boundTo();
        clear();
        typesStayAfterClear();
        counts();
        used512Times();
        System.out.println(wrong == 0 ? "all answers are as due" : wrong + " answers are not as due");
        if (wrong != 0) {
            System.exit(1);
        }
    }
}
