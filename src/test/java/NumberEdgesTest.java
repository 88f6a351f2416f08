import java.util.ArrayList;
import java.util.List;
import java.util.function.IntPredicate;
import java.util.function.Supplier;

/**
 * Every number that a call takes: all near its limits, and the smallest and the largest int. Those
 * that are not as told are BAD and change nothing; the others are taken, or FULL if all is full.
 */
public final class NumberEdgesTest {
    private static final int NONE = TypeFlow.NONE, BAD = TypeFlow.BAD, FULL = TypeFlow.FULL;
    private static final int BIT = 0, INT = 1, LONG = 2, V0 = 4, V1 = 5, ANY = 6;
    private static final int SOURCE = 0, MAP = 1, FILTER = 2, MEMBER = 3, UNION = 4, ZIP = 5,
            JOIN = 6, CAST = 7;

    private static int wrong = 0;

    private static void due(String call, Object got, Object want) {
        if (!got.equals(want)) {
            wrong++;
            System.out.println(call + " answered " + got + ", due is " + want);
        }
    }

    /** All from -9 to 110, the ends of int, and numbers that come out small if they are doubled. */
    private static final int[] NUMBERS = numbers();

    private static int[] numbers() {
        List<Integer> all = new ArrayList<>();
        for (int number = -9; number <= 110; number++) {
            all.add(number);
        }
        for (int near = 0; near < 8; near++) {
            all.add(Integer.MIN_VALUE + near);
            all.add(Integer.MAX_VALUE - near);
            all.add((1 << 30) + near);
            all.add(-(1 << 30) + near);
            all.add((1 << 8) + near);
            all.add((1 << 16) + near);
        }
        return all.stream().mapToInt(Integer::intValue).toArray();
    }

    /** An object, with what the test itself knows of what stands in it. */
    private static final class World {
        final TypeFlow x = new TypeFlow();
        int classes = 1, types = 7, members = 0, functions = 0, operators = 0;
        final int[] variables = new int[12];
        final int[] within = new int[80];
        final int[] parameters = new int[16];

        World() {
            within[V0] = 1;
            within[V1] = 2;
        }

        int classOf(int howMany, int parent) {
            due("making a CLASS", x.classOf(howMany, parent), classes);
            variables[classes] = howMany;
            return classes++;
        }

        int type(int cls, int a, int b) {
            due("making a TYPE", x.type(cls, a, b), types);
            within[types] = (variables[cls] > 0 ? within[a] : 0)
                    | (variables[cls] > 1 ? within[b] : 0);
            return types++;
        }

        int member(int cls, int type) {
            due("making a MEMBER", x.member(cls, type), members);
            return members++;
        }

        int function(int first, int second, int result) {
            due("making a FUNCTION", x.function(first, second, result), functions);
            parameters[functions] = second == NONE ? 1 : 2;
            return functions++;
        }

        int operator(int kind, int a, int b, int f, int g, int c) {
            due("making an OPERATOR", x.operator(kind, a, b, f, g, c), operators);
            return operators++;
        }

        boolean isClosed(int type) {
            return type >= 0 && type < types && within[type] == 0;
        }

        boolean isFunction(int number, int howMany) {
            return number >= 0 && number < functions && parameters[number] == howMany;
        }

        /** What can be asked without making anything; short, as an object has 512 calls only. */
        String told() {
            StringBuilder text = new StringBuilder();
            int there = x.count(1);
            for (int type = 0; type < there; type++) {
                text.append(x.about(type, 0)).append(' ').append(x.about(type, 1)).append(' ');
                if (type % 2 == 0) {
                    text.append(x.about(type, 2)).append(' ');
                }
            }
            return text.append(toldOfOperators()).toString();
        }

        String toldOfOperators() {
            StringBuilder text = new StringBuilder();
            for (int what = 0; what < 6; what++) {
                text.append(x.count(what)).append(' ');
            }
            for (int number = 0; number < operators; number++) {
                text.append(x.comes(number)).append(' ').append(x.boundTo(number, number % 2));
                text.append(' ');
            }
            return text.append(x.reason(7)).append(x.mayFail(6)).append(x.cast(1)).toString();
        }
    }

    private static World empty() {
        return new World();
    }

    /** Some of each: CLASSES box, pair, bag (from box) and leaf, and one OPERATOR of each KIND. */
    private static World some() {
        World w = new World();
        int box = w.classOf(1, ANY);
        int pair = w.classOf(2, ANY);
        int boxV0 = w.type(box, V0, 0);
        int boxV1 = w.type(box, V1, 0);
        w.type(box, ANY, 0);
        int bag = w.classOf(1, boxV0);
        int leaf = w.type(w.classOf(0, ANY), 0, 0);
        int bagLeaf = w.type(bag, leaf, 0);
        int pairV = w.type(pair, V0, boxV1);
        int content = w.member(box, V0);
        int key = w.member(0, INT);
        w.member(pair, boxV1);
        int open = w.function(boxV0, NONE, V0);
        int both = w.function(V0, V1, pairV);
        int any = w.function(V1, NONE, BIT);
        due("a BOUND", w.x.bound(open, 0, leaf), 1);
        int rows = w.operator(SOURCE, 0, 0, bagLeaf, 0, 0);
        int longs = w.operator(SOURCE, 0, 0, LONG, 0, 0);
        w.operator(MAP, rows, 0, open, 0, 0);
        w.operator(FILTER, rows, 0, any, 0, 0);
        w.operator(MEMBER, rows, 0, content, 0, 0);
        w.operator(UNION, rows, rows, 0, 0, 0);
        w.operator(CAST, longs, 0, INT, 0, 0);
        w.operator(CAST, longs, 0, BIT, 0, 0);
        w.operator(ZIP, 2, rows, both, 0, 0);
        w.operator(JOIN, rows, rows, key, key, pair);
        due("flow", w.x.flow(), 9);
        w.types = w.x.count(1);
        due("TYPES made by flow", w.types, 17);
        return w;
    }

    /** All that there may be of each. */
    private static World full() {
        World w = some();
        while (w.classes < 12) {
            w.classOf(w.classes % 3, ANY);
        }
        int closed = 16;
        int open = V1;
        while (w.types < 78) {
            closed = w.type(1, closed, 0);
            open = w.type(2, open, ANY);
        }
        while (w.types < 80) {
            closed = w.type(1, closed, 0);
        }
        while (w.members < 24) {
            w.member(2, w.members);
        }
        while (w.functions < 16) {
            w.function(V0, w.functions % 2 == 0 ? NONE : V0, V0);
        }
        while (w.operators < 24) {
            w.operator(CAST, 1, 0, INT, 0, 0);
        }
        w.x.flow();
        for (int what = 0; what < 5; what++) {
            due("all full, count " + what, w.x.count(what), new int[] {12, 80, 24, 16, 24}[what]);
        }
        return w;
    }

    private interface Call {
        int on(TypeFlow x, int number);
    }

    private static Supplier<World> start = NumberEdgesTest::empty;
    private static String place = "";

    private static void only(String what, IntPredicate allowed, Call call) {
        String before = start.get().told();
        for (int number : NUMBERS) {
            World w = start.get();
            String name = place + ", " + what + " " + number;
            if (allowed.test(number)) {
                due(name + ", taken", call.on(w.x, number) != BAD, true);
            } else {
                due(name, call.on(w.x, number), BAD);
                due(name + ", after it", w.told(), before);
            }
        }
    }

    private static void fullFor(String what, IntPredicate allowed, Call call) {
        String before = start.get().told();
        for (int number : NUMBERS) {
            World w = start.get();
            int want = allowed.test(number) ? FULL : BAD;
            due(place + ", " + what + " " + number, call.on(w.x, number), want);
            due(place + ", " + what + " " + number + ", after it", w.told(), before);
        }
    }

    private static IntPredicate below(int limit) {
        return number -> number >= 0 && number < limit;
    }

    private static IntPredicate from(int least, int limit) {
        return number -> number >= least && number < limit;
    }

    /** Those that make nothing: the same in each place. */
    private static void asking() {
        World w = start.get();
        only("comes", below(w.operators), (x, n) -> x.comes(n));
        only("reason", below(w.operators), (x, n) -> x.reason(n));
        only("mayFail", below(w.operators), (x, n) -> x.mayFail(n));
        only("boundTo", below(w.operators), (x, n) -> x.boundTo(n, 0));
        only("boundTo", below(w.operators), (x, n) -> x.boundTo(n, 1));
        only("about", below(w.types), (x, n) -> x.about(n, 0));
        only("about", below(w.types), (x, n) -> x.about(n, 3));
        only("about ANY", below(4), (x, n) -> x.about(ANY, n));
        only("about BIT", below(4), (x, n) -> x.about(BIT, n));
        only("count", below(6), (x, n) -> x.count(n));
        only("seen", from(ANY, w.types), (x, n) -> x.seen(n, 0));
        only("seen ANY as", below(w.classes), (x, n) -> x.seen(ANY, n));
        only("goes", w::isClosed, (x, n) -> x.goes(n, ANY));
        only("goes for", w::isClosed, (x, n) -> x.goes(ANY, n));
        only("goes for itself", w::isClosed, (x, n) -> x.goes(n, n));
        only("common", w::isClosed, (x, n) -> x.common(n, INT));
        only("common with", w::isClosed, (x, n) -> x.common(INT, n));
        only("common with itself", w::isClosed, (x, n) -> x.common(n, n));
        int risky = w.x.count(5);
        for (int number : NUMBERS) {
            due(place + ", cast " + number, w.x.cast(number) != NONE, number >= 0 && number < risky);
        }
    }

    private static void askingAboutWhatIsThere() {
        World w = start.get();
        for (int operator = 0; operator < w.operators; operator++) {
            int it = operator;
            only("boundTo VARIABLE", below(2), (x, n) -> x.boundTo(it, n));
        }
        for (int function = 0; function < w.functions; function++) {
            int it = function;
            only("bound VARIABLE", below(2), (x, n) -> x.bound(it, n, ANY));
        }
        only("bound FUNCTION", below(w.functions), (x, n) -> x.bound(n, 0, NONE));
        only("bound FUNCTION", below(w.functions), (x, n) -> x.bound(n, 1, ANY));
        IntPredicate limit = n -> n == NONE || n >= ANY && w.isClosed(n);
        only("bound TYPE", limit, (x, n) -> x.bound(0, 0, n));
        only("bound TYPE", limit, (x, n) -> x.bound(2, 1, n));
    }

    /** The makers where there is room. */
    private static void making() {
        World w = start.get();
        only("classOf", below(3), (x, n) -> x.classOf(n, ANY));
        for (int howMany = 0; howMany < 3; howMany++) {
            int many = howMany;
            only("classOf " + many + " from", n -> n >= ANY && n < w.types && w.within[n] >> many == 0,
                    (x, n) -> x.classOf(many, n));
        }
        only("type", below(w.classes), (x, n) -> x.type(n, ANY, ANY));
        for (int cls = 0; cls < w.classes; cls++) {
            int it = cls;
            only("member of " + it, n -> n >= 0 && n < w.types && w.within[n] >> w.variables[it] == 0,
                    (x, n) -> x.member(it, n));
            int needs = w.variables[it];
            only("type " + it + " of", n -> needs < 1 || n >= V0 && n < w.types,
                    (x, n) -> x.type(it, n, ANY));
            only("type " + it + " with", n -> needs < 2 || n >= V0 && n < w.types,
                    (x, n) -> x.type(it, ANY, n));
        }
        only("member", below(w.classes), (x, n) -> x.member(n, INT));
        only("function", below(w.types), (x, n) -> x.function(n, ANY, ANY));
        only("function with", from(NONE, w.types), (x, n) -> x.function(ANY, n, ANY));
        only("function gives", below(w.types), (x, n) -> x.function(ANY, ANY, n));
        only("SOURCE", w::isClosed, (x, n) -> x.operator(SOURCE, 0, 0, n, 0, 0));
    }

    private static void makingOperators() {
        World w = start.get();
        IntPredicate input = below(w.operators);
        only("KIND", below(8), (x, n) -> x.operator(n, 0, 0, n == ZIP ? 1 : 0, 1, 2));
        only("MAP of", input, (x, n) -> x.operator(MAP, n, 0, 0, 0, 0));
        only("MAP by", n -> w.isFunction(n, 1), (x, n) -> x.operator(MAP, 0, 0, n, 0, 0));
        only("FILTER of", input, (x, n) -> x.operator(FILTER, n, 0, 0, 0, 0));
        only("FILTER by", n -> w.isFunction(n, 1), (x, n) -> x.operator(FILTER, 0, 0, n, 0, 0));
        only("MEMBER of", input, (x, n) -> x.operator(MEMBER, n, 0, 0, 0, 0));
        only("MEMBER", below(w.members), (x, n) -> x.operator(MEMBER, 0, 0, n, 0, 0));
        only("UNION of", input, (x, n) -> x.operator(UNION, n, 0, 0, 0, 0));
        only("UNION with", input, (x, n) -> x.operator(UNION, 0, n, 0, 0, 0));
        only("ZIP of", input, (x, n) -> x.operator(ZIP, n, 0, 1, 0, 0));
        only("ZIP with", input, (x, n) -> x.operator(ZIP, 0, n, 1, 0, 0));
        only("ZIP by", n -> w.isFunction(n, 2), (x, n) -> x.operator(ZIP, 0, 0, n, 0, 0));
        only("JOIN of", input, (x, n) -> x.operator(JOIN, n, 0, 0, 0, 2));
        only("JOIN with", input, (x, n) -> x.operator(JOIN, 0, n, 0, 0, 2));
        only("JOIN m", below(w.members), (x, n) -> x.operator(JOIN, 0, 0, n, 0, 2));
        only("JOIN n", below(w.members), (x, n) -> x.operator(JOIN, 0, 0, 0, n, 2));
        only("JOIN c", n -> n >= 0 && n < w.classes && w.variables[n] == 2,
                (x, n) -> x.operator(JOIN, 0, 0, 0, 0, n));
        only("CAST of", input, (x, n) -> x.operator(CAST, n, 0, ANY, 0, 0));
        only("CAST to", w::isClosed, (x, n) -> x.operator(CAST, 0, 0, n, 0, 0));
    }

    /** "BAD (there is no such, or a number is not as told), then FULL." */
    private static void makingWhereAllIsFull() {
        World w = start.get();
        IntPredicate type = below(w.types);
        IntPredicate cls = below(w.classes);
        fullFor("classOf", below(3), (x, n) -> x.classOf(n, ANY));
        fullFor("classOf from", from(ANY, 80), (x, n) -> x.classOf(2, n));
        fullFor("classOf from", n -> n >= ANY && w.isClosed(n), (x, n) -> x.classOf(0, n));
        fullFor("member of", cls, (x, n) -> x.member(n, INT));
        fullFor("member", w::isClosed, (x, n) -> x.member(0, n));
        fullFor("member", type, (x, n) -> x.member(2, n));
        fullFor("function", type, (x, n) -> x.function(n, ANY, ANY));
        fullFor("function with", from(NONE, 80), (x, n) -> x.function(ANY, n, ANY));
        fullFor("function gives", type, (x, n) -> x.function(ANY, ANY, n));
        fullFor("type of", from(V0, 80), (x, n) -> x.type(8, n, ANY));
        fullFor("type with", from(V0, 80), (x, n) -> x.type(8, ANY, n));
        IntPredicate input = below(24);
        IntPredicate join = n -> n >= 0 && n < 12 && w.variables[n] == 2;
        fullFor("KIND", below(8), (x, n) -> x.operator(n, 0, 0, n == ZIP ? 1 : 0, 1, 2));
        fullFor("SOURCE", w::isClosed, (x, n) -> x.operator(SOURCE, 0, 0, n, 0, 0));
        fullFor("MAP of", input, (x, n) -> x.operator(MAP, n, 0, 0, 0, 0));
        fullFor("MAP by", n -> w.isFunction(n, 1), (x, n) -> x.operator(MAP, 0, 0, n, 0, 0));
        fullFor("FILTER by", n -> w.isFunction(n, 1), (x, n) -> x.operator(FILTER, 0, 0, n, 0, 0));
        fullFor("MEMBER", below(24), (x, n) -> x.operator(MEMBER, 0, 0, n, 0, 0));
        fullFor("UNION with", input, (x, n) -> x.operator(UNION, 23, n, 0, 0, 0));
        fullFor("ZIP with", input, (x, n) -> x.operator(ZIP, 23, n, 1, 0, 0));
        fullFor("ZIP by", n -> w.isFunction(n, 2), (x, n) -> x.operator(ZIP, 0, 0, n, 0, 0));
        fullFor("JOIN m", below(24), (x, n) -> x.operator(JOIN, 0, 0, n, 0, 2));
        fullFor("JOIN n", below(24), (x, n) -> x.operator(JOIN, 0, 0, 0, n, 2));
        fullFor("JOIN c", join, (x, n) -> x.operator(JOIN, 0, 0, 0, 0, n));
        fullFor("CAST of", input, (x, n) -> x.operator(CAST, n, 0, ANY, 0, 0));
        fullFor("CAST to", w::isClosed, (x, n) -> x.operator(CAST, 0, 0, n, 0, 0));
    }

    /** With nothing there yet, each call but those for the first of all is BAD. */
    private static void makingFromNothing() {
        only("bound", n -> false, (x, n) -> x.bound(n, 0, NONE));
        only("MAP by", n -> false, (x, n) -> x.operator(MAP, 0, 0, n, 0, 0));
        only("MEMBER", n -> false, (x, n) -> x.operator(MEMBER, 0, 0, n, 0, 0));
        only("UNION of", n -> false, (x, n) -> x.operator(UNION, n, n, 0, 0, 0));
        only("CAST of", n -> false, (x, n) -> x.operator(CAST, n, 0, ANY, 0, 0));
        only("JOIN c", n -> false, (x, n) -> x.operator(JOIN, 0, 0, 0, 0, n));
        only("KIND", n -> n == SOURCE, (x, n) -> x.operator(n, 0, 0, 0, 0, 0));
    }

    /** All that can be asked afterwards: also what only shows when it is used. */
    private static String used(World w) {
        StringBuilder text = new StringBuilder();
        text.append(w.x.flow()).append(' ').append(w.toldOfOperators());
        for (int cls = 0; cls < 12; cls++) {
            text.append(w.x.type(cls, V0, V1)).append(' ').append(w.x.seen(11, cls)).append(' ');
            text.append(w.x.type(cls, ANY, 10)).append(' ');
        }
        for (int function = 0; function < 4; function++) {
            text.append(w.x.operator(MAP, 0, 0, function, 0, 0)).append(' ');
            text.append(w.x.operator(ZIP, 4, 4, function, 0, 0)).append(' ');
        }
        for (int member = 0; member < 4; member++) {
            text.append(w.x.operator(MEMBER, 9, 0, member, 0, 0)).append(' ');
        }
        w.operators = w.x.count(4);
        text.append(w.x.flow()).append(' ').append(w.toldOfOperators());
        text.append(w.x.classOf(0, ANY)).append(' ').append(w.x.member(0, BIT)).append(' ');
        text.append(w.x.function(BIT, BIT, BIT)).append(' ').append(w.x.clear());
        return text.toString();
    }

    private static final Call[] REFUSED = {
        (x, n) -> x.classOf(3, ANY), (x, n) -> x.classOf(-1, ANY), (x, n) -> x.classOf(0, 7),
        (x, n) -> x.classOf(1, 8), (x, n) -> x.type(5, ANY, ANY), (x, n) -> x.type(1, INT, 0),
        (x, n) -> x.type(2, ANY, INT), (x, n) -> x.member(0, V0), (x, n) -> x.member(1, V1),
        (x, n) -> x.member(5, INT), (x, n) -> x.function(ANY, ANY, n), (x, n) -> x.bound(0, 0, INT),
        (x, n) -> x.function(ANY, n, ANY), (x, n) -> x.function(n, ANY, ANY),
        (x, n) -> x.bound(0, 0, 7), (x, n) -> x.bound(0, 2, ANY), (x, n) -> x.bound(3, 0, ANY),
        (x, n) -> x.bound(0, 0, n), (x, n) -> x.operator(MAP, 0, 0, 1, 0, 0),
        (x, n) -> x.operator(FILTER, 0, 0, 1, 0, 0), (x, n) -> x.operator(ZIP, 0, 0, 0, 0, 0),
        (x, n) -> x.operator(SOURCE, 0, 0, 7, 0, 0), (x, n) -> x.operator(CAST, 0, 0, V0, 0, 0),
        (x, n) -> x.operator(JOIN, 0, 0, 0, 0, 1), (x, n) -> x.operator(UNION, 0, 10, 0, 0, 0),
        (x, n) -> x.operator(MEMBER, 0, 0, 3, 0, 0), (x, n) -> x.operator(8, 0, 0, 0, 0, 0),
        (x, n) -> x.goes(15, V0), (x, n) -> x.common(15, 7), (x, n) -> x.seen(15, 5),
        (x, n) -> x.boundTo(0, 2), (x, n) -> x.comes(10), (x, n) -> x.reason(n),
        (x, n) -> x.mayFail(10), (x, n) -> x.about(17, 0), (x, n) -> x.about(0, 4),
        (x, n) -> x.count(6)
    };

    /** "Refusals change nothing": an object that was asked wrongly and one that was not are alike. */
    private static void refusalsChangeNothing() {
        String want = used(some());
        World all = some();
        for (int i = 0; i < REFUSED.length; i++) {
            for (int number : new int[] {17, BAD, Integer.MIN_VALUE, Integer.MAX_VALUE}) {
                World w = some();
                due("refused " + i, REFUSED[i].on(w.x, number), BAD);
                due("after refused " + i, used(w), want);
                due("refused again " + i, REFUSED[i].on(all.x, number), BAD);
            }
        }
        due("after all refused ones, told", all.told(), some().told());
        due("after all refused ones", used(all), want);
    }

    /** FULL changes nothing either: a 13th CLASS, an 81st TYPE, a 25th MEMBER, a 17th FUNCTION, .. */
    private static void fullChangesNothing() {
        String want = used(full());
        World w = full();
        for (int again = 0; again < 3; again++) {
            due("13th CLASS", w.x.classOf(2, 7), FULL);
            due("81st TYPE", w.x.type(8, V0, V0), FULL);
            due("25th MEMBER", w.x.member(2, V0), FULL);
            due("17th FUNCTION", w.x.function(BIT, BIT, BIT), FULL);
            due("25th OPERATOR", w.x.operator(SOURCE, 0, 0, BIT, 0, 0), FULL);
        }
        due("after all that was FULL", used(w), want);
    }

    private static void in(String where, Supplier<World> there) {
        place = where;
        start = there;
    }

    public static void main(String[] args) {
        in("nothing there", NumberEdgesTest::empty);
        asking();
        making();
        makingFromNothing();
        in("some there", NumberEdgesTest::some);
        asking();
        askingAboutWhatIsThere();
        making();
        makingOperators();
        in("all full", NumberEdgesTest::full);
        asking();
        askingAboutWhatIsThere();
        makingWhereAllIsFull();
        refusalsChangeNothing();
        fullChangesNothing();
        System.out.println(wrong == 0 ? "all answers are as due" : wrong + " answers are not as due");
        if (wrong != 0) {
            System.exit(1);
        }
    }
}
