import java.util.Random;

/** No call throws or goes on without end, whatever comes; deep and doubled TYPES among it. */
public final class BoundsTest {
    private static int wrong = 0;

    private static void due(String call, int got, int want) {
        if (got != want) {
            wrong++;
            System.out.println(call + " answered " + got + ", due is " + want);
        }
    }

    private static int wild(Random r) {
        int[] edges = {Integer.MIN_VALUE, Integer.MAX_VALUE, -1, -2, -3, 0, 1, 6, 7, 11, 12, 15, 16,
            23, 24, 79, 80, 81};
        int dice = r.nextInt(10);
        return dice == 0 ? r.nextInt() : dice < 4 ? edges[r.nextInt(edges.length)] : r.nextInt(10);
    }

    private static void wildCall(TypeFlow x, Random r) {
        int a = wild(r);
        int b = wild(r);
        int c = wild(r);
        switch (r.nextInt(18)) {
            case 0 -> x.classOf(a, b);
            case 1 -> x.type(a, b, c);
            case 2 -> x.member(a, b);
            case 3 -> x.function(a, b, c);
            case 4 -> x.bound(a, b, c);
            case 5 -> x.operator(a, b, c, wild(r), wild(r), wild(r));
            case 6 -> x.clear();
            case 7 -> x.flow();
            case 8 -> x.comes(a);
            case 9 -> x.reason(a);
            case 10 -> x.mayFail(a);
            case 11 -> x.cast(a);
            case 12 -> x.boundTo(a, b);
            case 13 -> x.goes(a, b);
            case 14 -> x.common(a, b);
            case 15 -> x.seen(a, b);
            case 16 -> x.about(a, b);
            default -> x.count(a);
        }
    }

    private static void wildRuns() {
        for (int seed = 0; seed < 2000; seed++) {
            Random r = new Random(seed);
            TypeFlow x = new TypeFlow();
            for (int call = 0; call < 2000; call++) {
                wildCall(x, r);
            }
        }
    }

    /** 2 to the 33rd VARIABLES, written out: each TYPE must be gone through once only. */
    private static void doubled() {
        TypeFlow x = new TypeFlow();
        int pair = x.classOf(2, 6);
        int top = x.type(pair, 4, 5);
        for (int level = 1; level < 34; level++) {
            top = x.type(pair, top, top);
        }
        due("doubled", top, 40);
        int id = x.function(top, -1, top);
        int fill = x.function(4, 5, top);
        x.operator(0, 0, 0, 6, 0, 0);
        x.operator(5, 0, 0, fill, 0, 0);
        x.operator(1, 1, 0, id, 0, 0);
        int more = x.classOf(2, top);
        int sub = x.type(more, 6, 6);
        due("flow", x.flow(), 3);
        due("comes filled", x.comes(1), 75);
        due("comes matched", x.comes(2), 75);
        due("boundTo", x.boundTo(2, 1), 6);
        due("seen", x.seen(sub, pair), 75);
        due("goes", x.goes(sub, 75), 1);
        due("TYPES", x.count(1), 76);
        due("a fault far within", x.function(x.type(pair, top, 4), -1, 0), 2);
        int far = x.type(pair, 75, 75);
        x.operator(0, 0, 0, far, 0, 0);
        x.operator(1, 3, 0, 2, 0, 0);
        x.flow();
        due("TORN at the end", x.reason(4), 2);
    }

    /** As deep as there are TYPES. */
    private static void deep() {
        TypeFlow x = new TypeFlow();
        int box = x.classOf(1, 6);
        int open = 4;
        for (int level = 0; level < 36; level++) {
            open = x.type(box, open, 0);
        }
        int wrap = x.function(4, -1, open);
        int unwrap = x.function(open, -1, 4);
        x.operator(0, 0, 0, 6, 0, 0);
        x.operator(1, 0, 0, wrap, 0, 0);
        x.operator(1, 1, 0, unwrap, 0, 0);
        x.operator(1, 1, 0, wrap, 0, 0);
        due("flow", x.flow(), 3);
        due("comes", x.comes(1), 78);
        due("comes", x.comes(2), 6);
        due("no room", x.reason(3), 8);
        due("TYPES", x.count(1), 80);
        int deepest = 6;
        TypeFlow y = new TypeFlow();
        y.classOf(1, 6);
        for (int level = 0; level < 73; level++) {
            deepest = y.type(1, deepest, 0);
        }
        due("deepest", deepest, 79);
        y.operator(0, 0, 0, deepest, 0, 0);
        y.operator(1, 0, 0, y.function(deepest, -1, deepest), 0, 0);
        due("flow", y.flow(), 2);
        due("comes", y.comes(1), 79);
    }

    /** A line of 11 CLASSES below ANY, each PARENT with its CLASS'S VARIABLES turned round. */
    private static void longLine() {
        TypeFlow x = new TypeFlow();
        int cls = x.classOf(2, 6);
        for (int i = 2; i < 12; i++) {
            cls = x.classOf(2, x.type(cls, 5, 4));
        }
        due("CLASSES", x.count(0), 12);
        int leafs = x.type(1, 6, 6);
        int lowest = x.type(11, leafs, 6);
        int at = x.count(1);
        due("seen", x.seen(lowest, 1), at + 9);
        due("first", x.about(at + 9, 1), leafs);
        due("common", x.common(lowest, x.type(11, 6, leafs)), 6);
    }

    public static void main(String[] args) {
        wildRuns();
        doubled();
        deep();
        longLine();
        System.out.println(wrong == 0 ? "all answers are as due" : wrong + " answers are not as due");
        if (wrong != 0) {
            System.exit(1);
        }
    }
}
