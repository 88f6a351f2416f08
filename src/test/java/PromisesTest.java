/** Each promise of the document by hand: ordinary calls, the edges it names, wrong numbers. */
public final class PromisesTest {
    private static final int NONE = TypeFlow.NONE, BAD = TypeFlow.BAD, FULL = TypeFlow.FULL;
    private static final int BIT = 0, INT = 1, LONG = 2, REAL = 3, V0 = 4, V1 = 5, ANY = 6;
    private static final int SOURCE = 0, MAP = 1, FILTER = 2, MEMBER = 3, UNION = 4, ZIP = 5,
            JOIN = 6, CAST = 7;
    private static final int UNLIKE = 1, TORN = 2, BEYOND = 3, UNBOUND = 4, LACKS = 5, APART = 6,
            EARLIER = 7, NO_ROOM = 8;

    private static int wrong = 0;
    private static String section = "";

    private static void due(String call, int got, int want) {
        if (got != want) {
            wrong++;
            System.out.println(section + ": " + call + " answered " + got + ", due is " + want);
        }
    }

    private static int source(TypeFlow x, int type) {
        return x.operator(SOURCE, 0, 0, type, 0, 0);
    }

    /** What flow() makes of the one operator, which is the last one made. */
    private static void dueType(String what, TypeFlow x, int operator, int type) {
        x.flow();
        due(what + ": comes", x.comes(operator), type);
        due(what + ": reason", x.reason(operator), 0);
    }

    private static void dueFault(String what, TypeFlow x, int operator, int reason) {
        x.flow();
        due(what + ": comes", x.comes(operator), NONE);
        due(what + ": reason", x.reason(operator), reason);
    }

    /** Fills the TYPES up with nested ones of CLASS cls, which has one VARIABLE, but for some. */
    private static void fillTypes(TypeFlow x, int cls, int leave) {
        int type = ANY;
        for (int i = 0; i < 80 && x.count(1) < 80 - leave; i++) {
            type = x.type(cls, type, 0);
        }
        due("TYPES there", x.count(1), 80 - leave);
    }

    private static void promise1() {
        TypeFlow x = new TypeFlow();
        due("NONE", TypeFlow.NONE, -1);
        due("BAD", TypeFlow.BAD, -2);
        due("FULL", TypeFlow.FULL, -3);
        int[] counts = {1, 7, 0, 0, 0, 0};
        for (int what = 0; what < counts.length; what++) {
            due("count " + what, x.count(what), counts[what]);
        }
        for (int type = BIT; type <= V1; type++) {
            due("CLASS of " + type, x.about(type, 0), NONE);
        }
        due("CLASS of ANY", x.about(ANY, 0), 0);
        due("flow of none", x.flow(), 0);
        due("clear of none", x.clear(), 0);
        due("no FUNCTION", x.bound(0, 0, NONE), BAD);
        due("objects are apart", new TypeFlow().classOf(0, ANY), 1);
        due("objects are apart", new TypeFlow().count(0), 1);
    }

    private static void promise2() {
        TypeFlow x = new TypeFlow();
        due("less than no VARIABLES", x.classOf(-1, ANY), BAD);
        due("three VARIABLES", x.classOf(3, ANY), BAD);
        for (int type : new int[] {BIT, INT, LONG, REAL, V0, V1, NONE, BAD, 7, 80,
                Integer.MIN_VALUE, Integer.MAX_VALUE}) {
            due("PARENT " + type, x.classOf(2, type), BAD);
        }
        due("refusals change nothing", x.count(0), 1);
        due("classOf", x.classOf(2, ANY), 1);
        int of0 = x.type(1, V0, V0);
        int of1 = x.type(1, V1, V1);
        int ofNone = x.type(1, ANY, ANY);
        due("VARIABLE 0 of none", x.classOf(0, of0), BAD);
        due("VARIABLE 1 of one", x.classOf(1, of1), BAD);
        due("VARIABLE 0 of one", x.classOf(1, of0), 2);
        due("VARIABLE 1 of two", x.classOf(2, of1), 3);
        due("CLOSED PARENT", x.classOf(0, ofNone), 4);
        for (int cls = 5; cls < 12; cls++) {
            due("classOf", x.classOf(0, ANY), cls);
        }
        due("a 13th", x.classOf(0, ANY), FULL);
        due("BAD ahead of FULL", x.classOf(3, ANY), BAD);
        due("BAD ahead of FULL", x.classOf(0, of0), BAD);
        due("count", x.count(0), 12);
    }

    private static void promise3() {
        TypeFlow x = new TypeFlow();
        due("ANY is there", x.type(0, 99, -99), ANY);
        due("no CLASS", x.type(1, ANY, ANY), BAD);
        due("no CLASS", x.type(NONE, ANY, ANY), BAD);
        int none = x.classOf(0, ANY);
        int one = x.classOf(1, ANY);
        int two = x.classOf(2, ANY);
        due("without ARGUMENTS", x.type(none, -5, INT), 7);
        due("again", x.type(none, ANY, 80), 7);
        due("b is not looked at", x.type(one, 7, 9999), 8);
        due("again", x.type(one, 7, BIT), 8);
        for (int type : new int[] {BIT, INT, LONG, REAL, NONE, 9, 80, Integer.MIN_VALUE}) {
            due("ARGUMENT a " + type, x.type(two, type, ANY), BAD);
            due("ARGUMENT b " + type, x.type(two, ANY, type), BAD);
            due("ARGUMENT " + type, x.type(one, type, ANY), BAD);
        }
        due("two ARGUMENTS", x.type(two, 7, 8), 9);
        due("the other way round", x.type(two, 8, 7), 10);
        due("with VARIABLES", x.type(two, V1, V0), 11);
        due("in it", x.type(one, 11, 0), 12);
        fillTypes(x, one, 0);
        due("an 81st", x.type(two, 9, 9), FULL);
        due("one that is there", x.type(two, 8, 7), 10);
        due("BAD ahead of FULL", x.type(two, 9, INT), BAD);
        due("no TYPE 80", x.type(one, 80, 0), BAD);
        due("TYPE 79", x.about(79, 0), one);
    }

    private static void promise4() {
        TypeFlow x = new TypeFlow();
        int one = x.classOf(1, ANY);
        int two = x.classOf(2, ANY);
        int of1 = x.type(one, V1, 0);
        int of0 = x.type(one, V0, 0);
        due("of ANY", x.member(0, INT), 0);
        due("of ANY with a VARIABLE", x.member(0, V0), BAD);
        due("VARIABLE 1 of one", x.member(one, V1), BAD);
        due("VARIABLE 1 of one, within", x.member(one, of1), BAD);
        due("VARIABLE 0 of one", x.member(one, of0), 1);
        due("VARIABLE 1 of two", x.member(two, of1), 2);
        for (int number : new int[] {NONE, 9, 80, Integer.MIN_VALUE, Integer.MAX_VALUE}) {
            due("TYPE " + number, x.member(two, number), BAD);
            due("CLASS " + number, x.member(number, INT), BAD);
        }
        for (int member = 3; member < 24; member++) {
            due("the same again", x.member(one, of0), member);
        }
        due("a 25th", x.member(one, of0), FULL);
        due("BAD ahead of FULL", x.member(one, V1), BAD);
        due("count", x.count(2), 24);
    }

    private static void promise5() {
        TypeFlow x = new TypeFlow();
        for (int number : new int[] {BAD, 7, 80, Integer.MIN_VALUE, Integer.MAX_VALUE}) {
            due("first " + number, x.function(number, ANY, ANY), BAD);
            due("second " + number, x.function(ANY, number, ANY), BAD);
            due("result " + number, x.function(ANY, ANY, number), BAD);
        }
        due("first NONE", x.function(NONE, ANY, ANY), BAD);
        due("result NONE", x.function(ANY, ANY, NONE), BAD);
        due("count", x.count(3), 0);
        due("one parameter", x.function(INT, NONE, V1), 0);
        due("two parameters", x.function(V0, V1, ANY), 1);
        for (int function = 2; function < 16; function++) {
            due("function", x.function(ANY, ANY, BIT), function);
        }
        due("a 17th", x.function(ANY, ANY, BIT), FULL);
        due("BAD ahead of FULL", x.function(ANY, 7, BIT), BAD);
        due("count", x.count(3), 16);
    }

    private static void promise6() {
        TypeFlow x = new TypeFlow();
        int one = x.classOf(1, ANY);
        int open = x.type(one, V0, 0);
        int closed = x.type(one, ANY, 0);
        int sub = x.classOf(0, closed);
        int ofSub = x.type(sub, 0, 0);
        due("no FUNCTION", x.bound(0, 0, ANY), BAD);
        due("function", x.function(V0, V1, V0), 0);
        for (int type : new int[] {BIT, INT, LONG, REAL, V0, V1, open, BAD, FULL, 10, 80}) {
            due("BOUND " + type, x.bound(0, 0, type), BAD);
        }
        due("VARIABLE -1", x.bound(0, -1, ANY), BAD);
        due("VARIABLE 2", x.bound(0, 2, ANY), BAD);
        due("FUNCTION 1", x.bound(1, 0, ANY), BAD);
        due("FUNCTION -1", x.bound(-1, 0, ANY), BAD);
        int any = source(x, ANY);
        int it = source(x, ofSub);
        int zip = x.operator(ZIP, it, any, 0, 0, 0);
        dueType("without BOUND", x, zip, ofSub);
        due("bound", x.bound(0, 0, closed), 1);
        due("bound", x.bound(0, 1, ANY), 1);
        dueType("within", x, zip, ofSub);
        due("bound", x.bound(0, 1, closed), 1);
        dueFault("VARIABLE 1 is beyond", x, zip, BEYOND);
        due("BAD changes nothing", x.bound(0, 1, BIT), BAD);
        dueFault("still beyond", x, zip, BEYOND);
        due("no BOUND", x.bound(0, 1, NONE), 1);
        dueType("no BOUND again", x, zip, ofSub);
    }

    private static void promise7() {
        TypeFlow x = new TypeFlow();
        int one = x.classOf(1, ANY);
        int two = x.classOf(2, ANY);
        int open = x.type(one, V0, 0);
        int f1 = x.function(V0, NONE, V0);
        int f2 = x.function(V0, V1, V0);
        int m = x.member(one, V0);
        int n = x.member(0, INT);
        int no = 77;
        due("kind -1", x.operator(-1, 0, 0, 0, 0, 0), BAD);
        due("kind 8", x.operator(8, 0, 0, 0, 0, 0), BAD);
        due("no INPUT yet", x.operator(UNION, 0, 0, 0, 0, 0), BAD);
        for (int type : new int[] {V0, V1, open, NONE, 8, 80}) {
            due("SOURCE " + type, x.operator(SOURCE, 0, 0, type, 0, 0), BAD);
        }
        due("SOURCE", x.operator(SOURCE, no, no, ANY, no, no), 0);
        for (int type : new int[] {V0, V1, open, NONE, 8, 80}) {
            due("CAST " + type, x.operator(CAST, 0, 0, type, 0, 0), BAD);
        }
        for (int input : new int[] {NONE, 1, 24, Integer.MAX_VALUE, Integer.MIN_VALUE}) {
            due("MAP of " + input, x.operator(MAP, input, 0, f1, 0, 0), BAD);
            due("FILTER of " + input, x.operator(FILTER, input, 0, f1, 0, 0), BAD);
            due("MEMBER of " + input, x.operator(MEMBER, input, 0, m, 0, 0), BAD);
            due("CAST of " + input, x.operator(CAST, input, 0, ANY, 0, 0), BAD);
            due("UNION of " + input, x.operator(UNION, input, 0, 0, 0, 0), BAD);
            due("UNION with " + input, x.operator(UNION, 0, input, 0, 0, 0), BAD);
            due("ZIP of " + input, x.operator(ZIP, input, 0, f2, 0, 0), BAD);
            due("ZIP with " + input, x.operator(ZIP, 0, input, f2, 0, 0), BAD);
            due("JOIN of " + input, x.operator(JOIN, input, 0, m, n, two), BAD);
            due("JOIN with " + input, x.operator(JOIN, 0, input, m, n, two), BAD);
        }
        due("MAP by two parameters", x.operator(MAP, 0, 0, f2, 0, 0), BAD);
        due("FILTER by two parameters", x.operator(FILTER, 0, 0, f2, 0, 0), BAD);
        due("ZIP by one parameter", x.operator(ZIP, 0, 0, f1, 0, 0), BAD);
        for (int number : new int[] {NONE, 3, Integer.MAX_VALUE, Integer.MIN_VALUE}) {
            due("MAP by " + number, x.operator(MAP, 0, 0, number, 0, 0), BAD);
            due("FILTER by " + number, x.operator(FILTER, 0, 0, number, 0, 0), BAD);
            due("ZIP by " + number, x.operator(ZIP, 0, 0, number, 0, 0), BAD);
            due("MEMBER " + number, x.operator(MEMBER, 0, 0, number, 0, 0), BAD);
            due("JOIN m " + number, x.operator(JOIN, 0, 0, number, n, two), BAD);
            due("JOIN n " + number, x.operator(JOIN, 0, 0, m, number, two), BAD);
            due("JOIN c " + number, x.operator(JOIN, 0, 0, m, n, number), BAD);
        }
        due("JOIN c without", x.operator(JOIN, 0, 0, m, n, 0), BAD);
        due("JOIN c of one", x.operator(JOIN, 0, 0, m, n, one), BAD);
        due("count", x.count(4), 1);
        due("MAP", x.operator(MAP, 0, no, f1, no, no), 1);
        due("FILTER", x.operator(FILTER, 0, no, f1, no, no), 2);
        due("MEMBER", x.operator(MEMBER, 2, no, n, no, no), 3);
        due("UNION", x.operator(UNION, 3, 2, no, no, no), 4);
        due("ZIP", x.operator(ZIP, 4, 4, f2, no, no), 5);
        due("JOIN", x.operator(JOIN, 5, 0, m, n, two), 6);
        due("CAST", x.operator(CAST, 6, no, BIT, no, no), 7);
        for (int operator = 8; operator < 24; operator++) {
            due("SOURCE", source(x, BIT), operator);
        }
        due("a 25th", source(x, BIT), FULL);
        due("BAD ahead of FULL", source(x, V0), BAD);
        due("BAD ahead of FULL", x.operator(CAST, 24, 0, BIT, 0, 0), BAD);
        due("count", x.count(4), 24);
    }

    private static void promise8() {
        TypeFlow x = new TypeFlow();
        int cls = x.classOf(0, ANY);
        int type = x.type(cls, 0, 0);
        int f = x.function(V0, NONE, V0);
        source(x, ANY);
        x.operator(CAST, 0, 0, type, 0, 0);
        x.operator(MAP, 0, 0, f, 0, 0);
        x.operator(CAST, 1, 0, BIT, 0, 0);
        due("flow", x.flow(), 3);
        due("CASTS", x.count(5), 1);
        due("clear", x.clear(), 4);
        due("clear again", x.clear(), 0);
        due("OPERATORS", x.count(4), 0);
        due("CASTS", x.count(5), 0);
        due("cast", x.cast(0), NONE);
        due("comes", x.comes(0), BAD);
        due("reason", x.reason(3), BAD);
        due("mayFail", x.mayFail(1), BAD);
        due("boundTo", x.boundTo(2, 0), BAD);
        due("INPUT that is gone", x.operator(UNION, 0, 0, 0, 0, 0), BAD);
        for (int i = 0; i < 24; i++) {
            due("new ones from 0 on", source(x, BIT), i);
            due("new: comes", x.comes(i), NONE);
            due("new: reason", x.reason(i), 0);
            due("new: mayFail", x.mayFail(i), 0);
            due("new: boundTo", x.boundTo(i, 0), NONE);
        }
        due("others stay", x.count(0) * 1000 + x.count(1) * 10 + x.count(3), 2081);
        due("clear of all", x.clear(), 24);
    }

    private static void promise9Kinds() {
        TypeFlow x = new TypeFlow();
        int box = x.classOf(1, ANY);
        int pair = x.classOf(2, ANY);
        int low = x.classOf(0, x.type(box, ANY, 0));
        int boxAny = x.type(box, ANY, 0);
        int boxV = x.type(box, V0, 0);
        int ofLow = x.type(low, 0, 0);
        int isBox = x.function(boxV, NONE, BIT);
        int unbox = x.function(boxV, NONE, V0);
        int item = x.member(box, V0);
        int number = x.member(box, INT);
        int longOne = x.member(0, LONG);
        int bits = x.member(0, BIT);

        int a = source(x, ofLow);
        int b = source(x, boxAny);
        int i = source(x, INT);
        dueType("SOURCE", x, i, INT);
        dueType("MAP, SEEN AS", x, x.operator(MAP, a, 0, unbox, 0, 0), ANY);
        dueFault("MAP of a PRIMITIVE", x, x.operator(MAP, i, 0, unbox, 0, 0), UNLIKE);
        dueType("FILTER gives its INPUT", x, x.operator(FILTER, a, 0, isBox, 0, 0), ofLow);
        dueFault("FILTER not by BIT", x, x.operator(FILTER, a, 0, unbox, 0, 0), UNLIKE);
        dueType("MEMBER", x, x.operator(MEMBER, a, 0, item, 0, 0), ANY);
        dueFault("MEMBER lacks", x, x.operator(MEMBER, 3, 0, item, 0, 0), LACKS);
        dueFault("MEMBER of a PRIMITIVE", x, x.operator(MEMBER, i, 0, longOne, 0, 0), LACKS);
        dueType("UNION", x, x.operator(UNION, a, b, 0, 0, 0), boxAny);
        dueFault("UNION apart", x, x.operator(UNION, a, i, 0, 0, 0), APART);
        int apart = x.count(4) - 1;
        dueFault("EARLIER by a", x, x.operator(UNION, apart, a, 0, 0, 0), EARLIER);
        dueFault("EARLIER by b", x, x.operator(UNION, a, apart, 0, 0, 0), EARLIER);
        dueFault("EARLIER of one", x, x.operator(CAST, apart, 0, ANY, 0, 0), EARLIER);
        int types = x.count(1);
        int join = x.operator(JOIN, a, b, number, longOne, pair);
        dueType("JOIN INT with LONG", x, join, types);
        due("JOIN CLASS", x.about(types, 0), pair);
        due("JOIN of a", x.about(types, 1), ofLow);
        due("JOIN of b", x.about(types, 2), boxAny);
        dueType("JOIN LONG with INT", x, x.operator(JOIN, a, b, longOne, number, pair), types);
        dueFault("JOIN apart", x, x.operator(JOIN, a, b, bits, number, pair), APART);
        dueFault("JOIN: a lacks", x, x.operator(JOIN, join, b, item, bits, pair), LACKS);
        dueFault("JOIN: b lacks", x, x.operator(JOIN, b, i, item, bits, pair), LACKS);
        dueFault("JOIN: EARLIER ahead of LACKS", x, x.operator(JOIN, i, apart, bits, bits, pair), EARLIER);
        due("flow again", x.flow(), 9);
    }

    private static void promise9Put() {
        TypeFlow x = new TypeFlow();
        int box = x.classOf(1, ANY);
        int pair = x.classOf(2, ANY);
        int leaf = x.type(x.classOf(0, ANY), 0, 0);
        int boxAny = x.type(box, ANY, 0);
        int boxLeaf = x.type(box, leaf, 0);
        int pairVV = x.type(pair, V0, V0);
        int nested = x.type(pair, x.type(box, V0, 0), V1);
        int a = source(x, x.type(pair, ANY, ANY));
        int b = source(x, x.type(pair, ANY, leaf));
        int c = source(x, x.type(pair, boxLeaf, leaf));
        int any = source(x, ANY);
        int i = source(x, INT);
        int bit = source(x, BIT);

        int same = x.function(pairVV, NONE, V0);
        dueType("bound twice alike", x, x.operator(MAP, a, 0, same, 0, 0), ANY);
        dueFault("TORN within", x, x.operator(MAP, b, 0, same, 0, 0), TORN);
        int open = x.function(nested, NONE, x.type(pair, V1, V0));
        int swapped = x.count(1);
        dueType("nested", x, x.operator(MAP, c, 0, open, 0, 0), x.type(pair, leaf, leaf));
        due("made once", x.count(1), swapped + 1);
        dueFault("ARGUMENT of another CLASS", x, x.operator(MAP, b, 0, open, 0, 0), UNLIKE);
        int exact = x.function(boxAny, NONE, BIT);
        int boxed = source(x, boxLeaf);
        dueFault("ARGUMENTS do not turn", x, x.operator(MAP, boxed, 0, exact, 0, 0), UNLIKE);
        int wide = x.function(LONG, REAL, REAL);
        dueType("INT for LONG, REAL", x, x.operator(ZIP, i, i, wide, 0, 0), REAL);
        dueFault("BIT for LONG", x, x.operator(ZIP, bit, i, wide, 0, 0), UNLIKE);
        dueFault("class for REAL", x, x.operator(ZIP, i, any, wide, 0, 0), UNLIKE);
        int torn = x.function(V0, V0, V0);
        dueFault("TORN", x, x.operator(ZIP, any, boxed, torn, 0, 0), TORN);
        dueFault("VARIABLE of a PRIMITIVE", x, x.operator(ZIP, any, i, torn, 0, 0), UNLIKE);
        int lost = x.function(V0, NONE, x.type(pair, V0, V1));
        int before = x.count(1);
        dueFault("UNBOUND", x, x.operator(MAP, boxed, 0, lost, 0, 0), UNBOUND);
        due("nothing is made", x.count(1), before);
        x.bound(lost, 0, boxAny);
        dueFault("BEYOND ahead of UNBOUND", x, x.count(4) - 1, BEYOND);
        x.bound(torn, 0, boxAny);
        dueFault("TORN ahead of BEYOND", x, x.operator(ZIP, boxed, any, torn, 0, 0), TORN);
        int first = x.function(pairVV, INT, BIT);
        dueFault("first ahead of second", x, x.operator(ZIP, b, bit, first, 0, 0), TORN);
        int unfit = x.function(V0, NONE, V1);
        dueFault("FILTER that is UNBOUND", x, x.operator(FILTER, any, 0, unfit, 0, 0), UNBOUND);
    }

    /** ARGUMENTS are gone through first one first, with all within it ahead of the second. */
    private static void promise9Order() {
        TypeFlow x = new TypeFlow();
        int pair = x.classOf(2, ANY);
        int leaf = x.type(x.classOf(0, ANY), 0, 0);
        int vv = x.type(pair, V0, V0);
        int tornFirst = x.type(pair, vv, leaf);
        int unlikeFirst = x.type(pair, leaf, vv);
        int mixed = x.type(pair, ANY, leaf);
        int it = source(x, x.type(pair, mixed, ANY));
        int back = source(x, x.type(pair, ANY, mixed));
        int f = x.function(tornFirst, NONE, BIT);
        int g = x.function(unlikeFirst, NONE, BIT);
        dueFault("TORN within the first", x, x.operator(MAP, it, 0, f, 0, 0), TORN);
        dueFault("UNLIKE is the first", x, x.operator(MAP, back, 0, g, 0, 0), UNLIKE);
        // Alike for one ARGUMENT does not mean alike for the next one.
        int twice = x.type(pair, vv, vv);
        int h = x.function(twice, NONE, V0);
        int anys = x.type(pair, ANY, ANY);
        int leafs = x.type(pair, leaf, leaf);
        int good = source(x, x.type(pair, anys, anys));
        int bad = source(x, x.type(pair, anys, leafs));
        dueType("twice alike", x, x.operator(MAP, good, 0, h, 0, 0), ANY);
        dueFault("twice, not alike", x, x.operator(MAP, bad, 0, h, 0, 0), TORN);
    }

    /** What is made comes in order: ARGUMENTS first, the first one of them ahead of the second. */
    private static void promise9Making() {
        TypeFlow x = new TypeFlow();
        int box = x.classOf(1, ANY);
        int pair = x.classOf(2, ANY);
        int leaf = x.type(x.classOf(0, ANY), 0, 0);
        int later = x.type(box, V1, 0);
        int earlier = x.type(box, V0, 0);
        int deep = x.type(pair, earlier, later);
        int f = x.function(V0, V1, deep);
        int zip = x.operator(ZIP, source(x, ANY), source(x, leaf), f, 0, 0);
        int at = x.count(1);
        dueType("made last", x, zip, at + 2);
        due("first ARGUMENT", x.about(at, 1), ANY);
        due("second ARGUMENT", x.about(at + 1, 1), leaf);
        due("of both", x.about(at + 2, 1) * 100 + x.about(at + 2, 2), at * 100 + at + 1);
        x.flow();
        due("made once", x.count(1), at + 3);
    }

    private static void promise9Full() {
        TypeFlow x = new TypeFlow();
        int box = x.classOf(1, ANY);
        int pair = x.classOf(2, ANY);
        int boxBoxV = x.type(box, x.type(box, V0, 0), 0);
        int bag = x.classOf(1, boxBoxV);
        int leaf = x.type(x.classOf(0, ANY), 0, 0);
        int bagLeaf = x.type(bag, leaf, 0);
        int bagAny = x.type(bag, ANY, 0);
        int wrap = x.function(V0, NONE, x.type(pair, V0, V0));
        int key = x.member(0, INT);
        int content = x.member(box, BIT);
        int bagged = x.member(bag, x.type(pair, V0, V0));
        int opened = x.function(boxBoxV, NONE, BIT);
        int limited = x.function(V0, NONE, V0);
        x.bound(limited, 0, x.type(box, ANY, 0));
        int a = source(x, bagLeaf);
        int b = source(x, bagAny);
        fillTypes(x, box, 1);
        int[] full = {
            x.operator(MAP, a, 0, opened, 0, 0), x.operator(UNION, a, b, 0, 0, 0),
            x.operator(MEMBER, a, 0, content, 0, 0), x.operator(FILTER, a, 0, opened, 0, 0),
            x.operator(MAP, a, 0, wrap, 0, 0), x.operator(JOIN, a, b, bagged, key, pair),
            x.operator(MEMBER, b, 0, bagged, 0, 0), x.operator(JOIN, a, a, content, content, pair),
            x.operator(CAST, a, 0, ANY, 0, 0), x.operator(MAP, a, 0, limited, 0, 0)
        };
        due("flow", x.flow(), 2);
        due("the room is used up", x.count(1), 80);
        due("what was made stays", x.about(79, 1), leaf);
        for (int operator : full) {
            due("no room: comes " + operator, x.comes(operator), NONE);
            due("no room: reason " + operator, x.reason(operator), NO_ROOM);
        }
        due("seen", x.seen(bagLeaf, box), FULL);
        due("seen as itself", x.seen(bagLeaf, bag), bagLeaf);
        due("goes", x.goes(bagLeaf, ANY), FULL);
        due("goes not, nothing to make", x.goes(ANY, bagLeaf), 0);
        due("common", x.common(bagLeaf, leaf), FULL);
        due("common of the same", x.common(bagLeaf, bagLeaf), bagLeaf);
    }

    private static void promises10And11() {
        TypeFlow x = new TypeFlow();
        int cls = x.classOf(0, ANY);
        int type = x.type(cls, 0, 0);
        for (int operator : new int[] {NONE, 0, 24, Integer.MIN_VALUE, Integer.MAX_VALUE}) {
            due("comes " + operator, x.comes(operator), BAD);
            due("reason " + operator, x.reason(operator), BAD);
        }
        int a = source(x, type);
        int apart = x.operator(CAST, a, 0, BIT, 0, 0);
        due("comes, no flow", x.comes(a), NONE);
        due("reason, no flow", x.reason(apart), 0);
        due("flow", x.flow(), 1);
        int late = x.operator(UNION, a, a, 0, 0, 0);
        due("comes", x.comes(a), type);
        due("reason of a TYPE", x.reason(a), 0);
        due("comes of a fault", x.comes(apart), NONE);
        due("reason", x.reason(apart), APART);
        due("comes, made after flow", x.comes(late), NONE);
        due("reason, made after flow", x.reason(late), 0);
        due("flow", x.flow(), 2);
        due("comes after the next flow", x.comes(late), type);
    }

    private static void promises12And13() {
        TypeFlow x = new TypeFlow();
        int top = x.type(x.classOf(0, ANY), 0, 0);
        int low = x.type(x.classOf(0, top), 0, 0);
        int side = x.type(x.classOf(0, top), 0, 0);
        int[] from = {source(x, BIT), source(x, INT), source(x, LONG), source(x, REAL),
            source(x, top), source(x, low)};
        int[][] casts = {
            // from, to, 0 fits, 1 may fail, -1 apart
            {0, BIT, 0}, {0, INT, -1}, {1, BIT, -1}, {1, INT, 0}, {1, LONG, 0}, {1, REAL, 0},
            {2, INT, 1}, {2, REAL, 1}, {3, LONG, 1}, {3, INT, 1}, {4, low, 1}, {5, top, 0},
            {5, side, -1}, {4, INT, -1}, {1, ANY, -1}, {5, ANY, 0}, {2, BIT, -1}
        };
        for (int[] cast : casts) {
            x.operator(CAST, from[cast[0]], 0, cast[1], 0, 0);
        }
        due("no flow: mayFail", x.mayFail(12), 0);
        due("no flow: cast", x.cast(0), NONE);
        due("no flow: count", x.count(5), 0);
        x.flow();
        int risky = 0;
        for (int i = 0; i < casts.length; i++) {
            int operator = from.length + i;
            due("cast " + i + " comes", x.comes(operator), casts[i][2] < 0 ? NONE : casts[i][1]);
            due("cast " + i + " reason", x.reason(operator), casts[i][2] < 0 ? APART : 0);
            due("cast " + i + " mayFail", x.mayFail(operator), casts[i][2] > 0 ? 1 : 0);
            if (casts[i][2] > 0) {
                due("cast " + risky, x.cast(risky), operator);
                risky++;
            }
        }
        due("count", x.count(5), risky);
        for (int k : new int[] {risky, -1, -2, Integer.MIN_VALUE, Integer.MAX_VALUE}) {
            due("cast " + k, x.cast(k), NONE);
        }
        due("mayFail of a SOURCE", x.mayFail(0), 0);
        due("mayFail -1", x.mayFail(-1), BAD);
        due("mayFail 23", x.mayFail(23), BAD);
        due("made after flow", x.operator(CAST, from[2], 0, INT, 0, 0), 23);
        due("made after flow: mayFail", x.mayFail(23), 0);
        due("made after flow: count", x.count(5), risky);
    }

    private static void promise14() {
        TypeFlow x = new TypeFlow();
        int box = x.classOf(1, ANY);
        int leaf = x.type(x.classOf(0, ANY), 0, 0);
        int boxLeaf = x.type(box, leaf, 0);
        int f = x.function(x.type(box, V1, 0), NONE, BIT);
        int g = x.function(V0, V1, V0);
        int h = x.function(V0, V0, BIT);
        int a = source(x, boxLeaf);
        int b = source(x, leaf);
        int map = x.operator(MAP, a, 0, f, 0, 0);
        int filter = x.operator(FILTER, a, 0, f, 0, 0);
        int zip = x.operator(ZIP, a, b, g, 0, 0);
        int torn = x.operator(ZIP, a, b, h, 0, 0);
        int union = x.operator(UNION, a, b, 0, 0, 0);
        due("no flow", x.boundTo(map, 1), NONE);
        x.flow();
        due("MAP 0", x.boundTo(map, 0), NONE);
        due("MAP 1", x.boundTo(map, 1), leaf);
        due("FILTER 0", x.boundTo(filter, 0), NONE);
        due("FILTER 1", x.boundTo(filter, 1), leaf);
        due("ZIP 0", x.boundTo(zip, 0), boxLeaf);
        due("ZIP 1", x.boundTo(zip, 1), leaf);
        due("TORN 0", x.boundTo(torn, 0), NONE);
        due("without FUNCTION", x.boundTo(union, 0), NONE);
        due("SOURCE", x.boundTo(a, 1), NONE);
        due("VARIABLE -1", x.boundTo(map, -1), BAD);
        due("VARIABLE 2", x.boundTo(map, 2), BAD);
        due("OPERATOR -1", x.boundTo(-1, 0), BAD);
        due("OPERATOR 7", x.boundTo(7, 0), BAD);
        x.bound(g, 1, boxLeaf);
        due("by the latest flow", x.boundTo(zip, 0), boxLeaf);
        x.flow();
        due("no TYPE any more", x.boundTo(zip, 0), NONE);
    }

    private static void promise15() {
        TypeFlow x = new TypeFlow();
        int box = x.classOf(1, ANY);
        int boxV = x.type(box, V0, 0);
        int bag = x.classOf(1, boxV);
        int leaf = x.type(x.classOf(0, ANY), 0, 0);
        int bagLeaf = x.type(bag, leaf, 0);
        int boxAny = x.type(box, ANY, 0);
        int[][] primitives = {{1, 0, 0, 0}, {0, 1, 1, 1}, {0, 0, 1, 0}, {0, 0, 0, 1}};
        for (int one = BIT; one <= REAL; one++) {
            for (int two = BIT; two <= REAL; two++) {
                due(one + " goes for " + two, x.goes(one, two), primitives[one][two]);
            }
            due(one + " goes for ANY", x.goes(one, ANY), 0);
            due("ANY goes for " + one, x.goes(ANY, one), 0);
        }
        int before = x.count(1);
        due("itself", x.goes(bagLeaf, bagLeaf), 1);
        due("down", x.goes(boxAny, bagLeaf), 0);
        due("aside", x.goes(bagLeaf, leaf), 0);
        due("nothing is made", x.count(1), before);
        due("with another ARGUMENT", x.goes(bagLeaf, boxAny), 0);
        due("SEEN AS is made", x.count(1), before + 1);
        due("up", x.goes(bagLeaf, before), 1);
        due("up to ANY", x.goes(bagLeaf, ANY), 1);
        for (int type : new int[] {V0, V1, boxV, NONE, 80, before + 1, Integer.MIN_VALUE}) {
            due(type + " goes", x.goes(type, ANY), BAD);
            due("goes for " + type, x.goes(ANY, type), BAD);
            due(type + " goes for itself", x.goes(type, type), BAD);
        }
    }

    private static void promise16() {
        TypeFlow x = new TypeFlow();
        int box = x.classOf(1, ANY);
        int boxV = x.type(box, V0, 0);
        int bag = x.classOf(1, boxV);
        int sack = x.classOf(1, boxV);
        int leaf = x.type(x.classOf(0, ANY), 0, 0);
        int bagLeaf = x.type(bag, leaf, 0);
        int sackLeaf = x.type(sack, leaf, 0);
        int sackAny = x.type(sack, ANY, 0);
        int[][] primitives = {{0, NONE, NONE, NONE}, {NONE, 1, 2, 3}, {NONE, 2, 2, NONE},
            {NONE, 3, NONE, 3}};
        for (int one = BIT; one <= REAL; one++) {
            for (int two = BIT; two <= REAL; two++) {
                due("common " + one + ", " + two, x.common(one, two), primitives[one][two]);
            }
            due("common with ANY", x.common(one, ANY), NONE);
            due("common of ANY", x.common(ANY, one), NONE);
        }
        int at = x.count(1);
        due("the same", x.common(bagLeaf, bagLeaf), bagLeaf);
        due("nothing is made", x.count(1), at);
        due("not alike as box", x.common(sackAny, bagLeaf), ANY);
        due("both are SEEN", x.count(1), at + 2);
        due("the first one ahead", x.about(at, 1), ANY);
        due("the second one then", x.about(at + 1, 1), leaf);
        due("nearest", x.common(bagLeaf, sackLeaf), at + 1);
        due("below the other one", x.common(bagLeaf, at + 1), at + 1);
        due("above the other one", x.common(at + 1, bagLeaf), at + 1);
        due("with ANY", x.common(bagLeaf, ANY), ANY);
        for (int type : new int[] {V0, V1, boxV, NONE, 80, at + 2, Integer.MIN_VALUE}) {
            due("common " + type, x.common(type, ANY), BAD);
            due("common with " + type, x.common(ANY, type), BAD);
            due("common both " + type, x.common(type, type), BAD);
        }
    }

    private static void promise17() {
        TypeFlow x = new TypeFlow();
        int pair = x.classOf(2, ANY);
        int swapped = x.classOf(2, x.type(pair, V1, V0));
        int twice = x.classOf(1, x.type(swapped, V0, ANY));
        int leaf = x.type(x.classOf(0, ANY), 0, 0);
        int it = x.type(twice, leaf, 0);
        int at = x.count(1);
        due("as itself", x.seen(it, twice), it);
        due("as none of its own", x.seen(it, 4), NONE);
        due("as one below", x.seen(ANY, twice), NONE);
        due("nothing is made", x.count(1), at);
        due("two up", x.seen(it, pair), at + 1);
        due("the one between: CLASS", x.about(at, 0), swapped);
        due("the one between: first", x.about(at, 1), leaf);
        due("the one between: second", x.about(at, 2), ANY);
        due("first", x.about(at + 1, 1), ANY);
        due("second", x.about(at + 1, 2), leaf);
        due("again", x.seen(it, pair), at + 1);
        due("as ANY", x.seen(it, 0), ANY);
        due("ANY as ANY", x.seen(ANY, 0), ANY);
        int open = x.type(swapped, V1, V0);
        int seenOpen = x.seen(open, pair);
        due("not CLOSED: first", x.about(seenOpen, 1), V0);
        due("not CLOSED: second", x.about(seenOpen, 2), V1);
        for (int type : new int[] {BIT, INT, LONG, REAL, V0, V1, NONE, 80, x.count(1)}) {
            due("seen " + type, x.seen(type, 0), BAD);
        }
        for (int cls : new int[] {NONE, 5, 12, Integer.MIN_VALUE, Integer.MAX_VALUE}) {
            due("seen as " + cls, x.seen(it, cls), BAD);
        }
    }

    private static void promise18() {
        TypeFlow x = new TypeFlow();
        int box = x.classOf(1, ANY);
        int pair = x.classOf(2, ANY);
        int[][] abouts = {
            {BIT, NONE, NONE, NONE, 1}, {INT, NONE, NONE, NONE, 1}, {LONG, NONE, NONE, NONE, 1},
            {REAL, NONE, NONE, NONE, 1}, {V0, NONE, NONE, NONE, 0}, {V1, NONE, NONE, NONE, 0},
            {ANY, 0, NONE, NONE, 1}, {x.type(box, V1, V0), box, V1, NONE, 0},
            {x.type(box, ANY, V0), box, ANY, NONE, 1}, {x.type(pair, ANY, V0), pair, ANY, V0, 0},
            {x.type(pair, 8, ANY), pair, 8, ANY, 1}, {x.type(pair, 8, 9), pair, 8, 9, 0}
        };
        for (int[] row : abouts) {
            for (int what = 0; what < 4; what++) {
                due("about " + row[0] + ", " + what, x.about(row[0], what), row[what + 1]);
            }
            due("about " + row[0] + ", -1", x.about(row[0], -1), BAD);
            due("about " + row[0] + ", 4", x.about(row[0], 4), BAD);
        }
        for (int type : new int[] {NONE, abouts.length, 80, Integer.MIN_VALUE, Integer.MAX_VALUE}) {
            for (int what = -1; what < 5; what++) {
                due("about " + type + ", " + what, x.about(type, what), BAD);
            }
        }
    }

    private static void promise19() {
        TypeFlow x = new TypeFlow();
        x.classOf(0, ANY);
        x.classOf(0, ANY);
        x.type(1, 0, 0);
        x.type(2, 0, 0);
        x.type(2, 0, 0);
        x.member(1, INT);
        x.member(1, INT);
        x.member(1, INT);
        x.function(ANY, NONE, ANY);
        source(x, REAL);
        x.operator(CAST, 0, 0, INT, 0, 0);
        x.operator(CAST, 0, 0, LONG, 0, 0);
        x.operator(CAST, 1, 0, LONG, 0, 0);
        x.flow();
        int[] counts = {3, 9, 3, 1, 4, 2};
        for (int what = 0; what < counts.length; what++) {
            due("count " + what, x.count(what), counts[what]);
        }
        for (int what : new int[] {-1, 6, Integer.MIN_VALUE, Integer.MAX_VALUE}) {
            due("count " + what, x.count(what), BAD);
        }
    }

    public static void main(String[] args) {
        section = "promise 1";
        promise1();
        section = "promise 2";
        promise2();
        section = "promise 3";
        promise3();
        section = "promise 4";
        promise4();
        section = "promise 5";
        promise5();
        section = "promise 6";
        promise6();
        section = "promise 7";
        promise7();
        section = "promise 8";
        promise8();
        section = "promise 9, kinds";
        promise9Kinds();
        section = "promise 9, PUT TO";
        promise9Put();
        section = "promise 9, order";
        promise9Order();
        section = "promise 9, making";
        promise9Making();
        section = "promise 9, no room";
        promise9Full();
        section = "promises 10, 11";
        promises10And11();
        section = "promises 12, 13";
        promises12And13();
        section = "promise 14";
        promise14();
        section = "promise 15";
        promise15();
        section = "promise 16";
        promise16();
        section = "promise 17";
        promise17();
        section = "promise 18";
        promise18();
        section = "promise 19";
        promise19();
        System.out.println(wrong == 0 ? "all answers are as due" : wrong + " answers are not as due");
        if (wrong != 0) {
            System.exit(1);
        }
    }
}
