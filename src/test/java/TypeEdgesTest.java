import java.util.function.ToIntFunction;

/** The sentences on CLASSES, TYPES and MEMBERS that name a boundary, each with a test of its own. */
public final class TypeEdgesTest {
    private static final int NONE = TypeFlow.NONE, BAD = TypeFlow.BAD, FULL = TypeFlow.FULL;
    private static final int BIT = 0, INT = 1, LONG = 2, REAL = 3, V0 = 4, V1 = 5, ANY = 6;
    private static final int APART = 6, EARLIER = 7, NO_ROOM = 8;

    private static int wrong = 0;
    private static String sentence = "";

    private static void due(String call, int got, int want) {
        if (got != want) {
            wrong++;
            System.out.println(sentence + ": " + call + " answered " + got + ", due is " + want);
        }
    }

    /** A TYPE, by its CLASS and ARGUMENTS. */
    private static void dueIs(String what, TypeFlow x, int type, int cls, int a, int b) {
        due(what + ": CLASS", x.about(type, 0), cls);
        due(what + ": first ARGUMENT", x.about(type, 1), a);
        due(what + ": second ARGUMENT", x.about(type, 2), b);
    }

    /** TYPES of a CLASS with one VARIABLE, each in the next, until room for so many is left. */
    private static void leaveRoom(TypeFlow x, int cls, int room) {
        int type = ANY;
        for (int i = 0; i < 80 && x.count(1) < 80 - room; i++) {
            type = x.type(cls, type, 0);
        }
        due("TYPES there", x.count(1), 80 - room);
    }

    private static void newObject() {
        sentence = "CLASS ANY, TYPES 0 .. 6; no FUNCTIONS, MEMBERS, OPERATORS";
        TypeFlow x = new TypeFlow();
        due("CLASSES", x.count(0), 1);
        due("TYPES", x.count(1), 7);
        due("MEMBERS", x.count(2), 0);
        due("FUNCTIONS", x.count(3), 0);
        due("OPERATORS", x.count(4), 0);
        due("CASTS", x.count(5), 0);
        due("TYPE 6 is there", x.about(6, 3), 1);
        due("TYPE 7 is not", x.about(7, 3), BAD);
        due("OPERATOR 0 is not", x.comes(0), BAD);
        due("FUNCTION 0 is not", x.bound(0, 0, ANY), BAD);
        due("MEMBER 0 is not", x.operator(3, x.operator(0, 0, 0, ANY, 0, 0), 0, 0, 0, 0), BAD);
        TypeFlow y = new TypeFlow();
        due("another object has nothing of it", y.count(4), 0);
    }

    private static void classesAre0To11() {
        sentence = "CLASSES are 0 .. 11, as they are made; CLASS 0, ANY, is there at first";
        TypeFlow x = new TypeFlow();
        due("CLASS 0", x.type(0, BAD, BAD), ANY);
        for (int cls = 1; cls <= 11; cls++) {
            due("CLASS " + cls + " before", x.type(cls, ANY, ANY), BAD);
            due("CLASS " + cls, x.classOf(cls % 3, ANY), cls);
            due("CLASS " + cls + " is there", x.type(cls, ANY, ANY), 6 + cls);
            due("so many", x.count(0), cls + 1);
        }
        for (int again = 0; again < 3; again++) {
            due("a 13th", x.classOf(0, ANY), FULL);
            due("so many", x.count(0), 12);
            due("no CLASS 12", x.type(12, ANY, ANY), BAD);
            due("no CLASS 12", x.member(12, INT), BAD);
            due("no CLASS 12", x.seen(ANY, 12), BAD);
        }
        due("CLASS 11 as ANY", x.seen(17, 0), ANY);
        due("MEMBER of CLASS 11", x.member(11, V1), 0);
    }

    private static void variables0To2() {
        sentence = "Each has 0 to 2 VARIABLES (ANY none)";
        for (int howMany = 0; howMany <= 2; howMany++) {
            TypeFlow x = new TypeFlow();
            due("classOf", x.classOf(howMany, ANY), 1);
            due("BIT for a", x.type(1, BIT, ANY), howMany > 0 ? BAD : 7);
            due("BIT for b", x.type(1, ANY, BIT), howMany > 1 ? BAD : 7);
            int type = x.type(1, ANY, ANY);
            dueIs("its TYPE", x, type, 1, howMany > 0 ? ANY : NONE, howMany > 1 ? ANY : NONE);
            due("VARIABLE 0 in a MEMBER", x.member(1, V0), howMany > 0 ? 0 : BAD);
            due("VARIABLE 1 in a MEMBER", x.member(1, V1), howMany > 1 ? 1 : BAD);
        }
        TypeFlow x = new TypeFlow();
        due("-1", x.classOf(-1, ANY), BAD);
        due("3", x.classOf(3, ANY), BAD);
        due("VARIABLE 0 of ANY", x.member(0, V0), BAD);
        due("VARIABLE 1 of ANY", x.member(0, V1), BAD);
    }

    private static void parentIsClassType() {
        sentence = "a PARENT, which is a class TYPE";
        TypeFlow x = new TypeFlow();
        for (int type = BIT; type <= V1; type++) {
            due("PARENT " + type, x.classOf(2, type), BAD);
        }
        due("not made yet", x.classOf(2, 7), BAD);
        due("the first class TYPE", x.classOf(2, 6), 1);
        due("a TYPE", x.type(1, V0, V1), 7);
        due("the last class TYPE", x.classOf(2, 7), 2);
        due("the next one", x.classOf(2, 8), BAD);

        sentence = "a PARENT, in which only these stand";
        // The TYPES 7 .. 14, each with the VARIABLES that stand in it: bit 0, bit 1.
        int[] stand = {1, 2, 3, 1, 2, 3, 0, 0};
        for (int howMany = 0; howMany <= 2; howMany++) {
            for (int i = 0; i < stand.length; i++) {
                TypeFlow y = new TypeFlow();
                int box = y.classOf(1, ANY);
                int pair = y.classOf(2, ANY);
                int[] parents = {y.type(box, V0, 0), y.type(box, V1, 0), y.type(pair, V0, V1),
                    y.type(pair, ANY, 7), y.type(pair, 8, ANY), y.type(box, 9, 0),
                    y.type(box, ANY, 0), y.type(pair, 13, ANY)};
                boolean only = stand[i] < 1 << howMany;
                due(howMany + " VARIABLES, " + i, y.classOf(howMany, parents[i]), only ? 3 : BAD);
                due(howMany + " VARIABLES, CLASSES", y.count(0), only ? 4 : 3);
            }
        }
    }

    private static void types80AtMost() {
        sentence = "TYPES are numbered as they are made, 80 at most";
        TypeFlow x = new TypeFlow();
        int box = x.classOf(1, ANY);
        int leaf = x.classOf(0, ANY);
        for (int number = 7; number < 80; number++) {
            due("before " + number, x.about(number, 0), BAD);
            due("type " + number, x.type(box, number - 1, 0), number);
            due("so many", x.count(1), number + 1);
        }
        dueIs("the last one", x, 79, box, 78, NONE);
        for (int again = 0; again < 3; again++) {
            due("an 81st", x.type(box, 79, 0), FULL);
            due("an 81st without ARGUMENTS", x.type(leaf, 0, 0), FULL);
            due("an 81st with a VARIABLE", x.type(box, V0, 0), FULL);
            due("so many", x.count(1), 80);
            due("no TYPE 80", x.about(80, 0), BAD);
        }
        due("ANY is there, with no room", x.type(0, 0, 0), ANY);
        for (int number = 7; number < 80; number++) {
            due("there, with no room", x.type(box, number - 1, 0), number);
        }
        due("BAD ahead of FULL", x.type(box, REAL, 0), BAD);
        due("BAD ahead of FULL", x.type(box, 80, 0), BAD);
        due("BAD ahead of FULL", x.type(3, 0, 0), BAD);
    }

    private static void sameOneOnce() {
        sentence = "the same one is made once";
        TypeFlow x = new TypeFlow();
        int box = x.classOf(1, ANY);
        int pair = x.classOf(2, ANY);
        int leaf = x.classOf(0, ANY);
        int bag = x.classOf(1, x.type(box, V0, 0));
        int[][] made = {{leaf, BIT, 99}, {box, ANY, BIT}, {box, 8, 8}, {pair, 8, 9}, {pair, 9, 8},
            {pair, 8, 8}, {bag, 8, 0}, {box, V1, 0}, {pair, V0, V1}, {pair, V1, V0}};
        for (int i = 0; i < made.length; i++) {
            due("first", x.type(made[i][0], made[i][1], made[i][2]), 8 + i);
        }
        for (int i = 0; i < made.length; i++) {
            due("again", x.type(made[i][0], made[i][1], made[i][2]), 8 + i);
        }
        due("so many", x.count(1), 8 + made.length);
        due("SEEN, there already", x.seen(14, box), 10);
        due("so many", x.count(1), 8 + made.length);
        int f = x.function(V0, V1, 16);
        x.operator(0, 0, 0, 8, 0, 0);
        x.operator(0, 0, 0, 9, 0, 0);
        x.operator(5, 0, 1, f, 0, 0);
        due("flow", x.flow(), 3);
        due("comes, there already", x.comes(2), 11);
        due("so many", x.count(1), 8 + made.length);
    }

    private static void argumentsAreVariablesOrClassTypes() {
        sentence = "each a VARIABLE or a class TYPE; those that it does not need are not looked at";
        int[] wild = {Integer.MIN_VALUE, BAD, NONE, BIT, REAL, V0, V1, ANY, 79, 80,
            Integer.MAX_VALUE};
        for (int number : wild) {
            TypeFlow x = new TypeFlow();
            int leaf = x.classOf(0, ANY);
            int box = x.classOf(1, ANY);
            int pair = x.classOf(2, ANY);
            boolean may = number >= V0 && number <= ANY;
            due("none needed " + number, x.type(leaf, number, number), 7);
            due("b not needed " + number, x.type(box, 7, number), 8);
            dueIs("b not needed " + number, x, 8, box, 7, NONE);
            due("a of one " + number, x.type(box, number, ANY), may ? 9 : BAD);
            due("a of two " + number, x.type(pair, number, ANY), may ? 10 : BAD);
            due("b of two " + number, x.type(pair, 7, number), may ? 11 : BAD);
            due("ANY " + number, x.type(0, number, number), ANY);
        }
        TypeFlow x = new TypeFlow();
        x.classOf(1, ANY);
        due("not made yet", x.type(1, 7, 0), BAD);
        due("the first one", x.type(1, 6, 0), 7);
        due("the last one there", x.type(1, 7, 0), 8);
    }

    private static void closed() {
        sentence = "A TYPE is CLOSED, if there is no VARIABLE in it";
        TypeFlow x = new TypeFlow();
        int box = x.classOf(1, ANY);
        int pair = x.classOf(2, ANY);
        for (int type = BIT; type <= ANY; type++) {
            due("TYPE " + type, x.about(type, 3), type == V0 || type == V1 ? 0 : 1);
        }
        for (int variable = V0; variable <= V1; variable++) {
            int deep = variable;
            for (int level = 0; level < 10; level++) {
                deep = x.type(box, deep, 0);
                due("not CLOSED, level " + level, x.about(deep, 3), 0);
            }
            due("in the first ARGUMENT", x.about(x.type(pair, deep, ANY), 3), 0);
            due("in the second ARGUMENT", x.about(x.type(pair, ANY, deep), 3), 0);
            due("goes", x.goes(deep, ANY), BAD);
            due("goes for", x.goes(ANY, deep), BAD);
            due("common", x.common(deep, deep), BAD);
            due("SOURCE", x.operator(0, 0, 0, deep, 0, 0), BAD);
        }
        int open = x.type(pair, V0, V1);
        due("both", x.about(open, 3), 0);
        int shut = ANY;
        for (int level = 0; level < 10; level++) {
            shut = x.type(pair, shut, shut);
            due("CLOSED, level " + level, x.about(shut, 3), 1);
        }
        due("goes", x.goes(shut, ANY), 1);
    }

    private static void puttingIn() {
        sentence = "each VARIABLE in it becomes that one for it";
        TypeFlow x = new TypeFlow();
        int pair = x.classOf(2, ANY);
        int box = x.classOf(1, ANY);
        int turned = x.classOf(2, x.type(pair, V1, V0));
        int twice = x.classOf(1, x.type(pair, V0, V0));
        int boxV0 = x.type(box, V0, 0);
        int boxV1 = x.type(box, V1, 0);
        int it = x.type(turned, boxV1, boxV0);
        int seen = x.seen(it, pair);
        dueIs("what is put in is not looked into", x, seen, pair, boxV0, boxV1);
        int back = x.type(turned, V1, V0);
        dueIs("turned back", x, x.seen(back, pair), pair, V0, V1);
        int same = x.type(turned, V1, V1);
        dueIs("both the same", x, x.seen(same, pair), pair, V1, V1);
        dueIs("one VARIABLE twice", x, x.seen(x.type(twice, V1, 0), pair), pair, V1, V1);
        int fixed = x.classOf(2, x.type(pair, ANY, boxV1));
        int at = x.count(1) + 1;
        dueIs("what has no VARIABLE stays", x, x.seen(x.type(fixed, V0, ANY), pair), pair, ANY, at);
        dueIs("its second ARGUMENT", x, at, box, ANY, NONE);
        int leaf = x.type(x.classOf(0, ANY), 0, 0);
        int nested = x.classOf(1, x.type(box, x.type(box, boxV0, 0), 0));
        int outer = x.type(nested, leaf, 0);
        int made = x.count(1);
        due("three deep", x.seen(outer, box), made + 2);
        dueIs("the innermost", x, made, box, leaf, NONE);
        dueIs("the next one", x, made + 1, box, made, NONE);
        dueIs("the outermost", x, made + 2, box, made + 1, NONE);
        int second = x.classOf(2, x.type(pair, ANY, x.type(box, boxV1, 0)));
        int withLeaf = x.type(second, ANY, leaf);
        int there = x.count(1);
        due("deep in the second ARGUMENT", x.seen(withLeaf, pair), there);
        dueIs("it, of what was there", x, there, pair, ANY, made + 1);
    }

    /** With all TYPES but one in each other, and a VARIABLE in the innermost. */
    private static void puttingInDeepDown() {
        sentence = "each VARIABLE in it becomes that one for it, as deep as there are TYPES";
        for (int variable = V0; variable <= V1; variable++) {
            TypeFlow x = new TypeFlow();
            int box = x.classOf(1, ANY);
            int deep = variable;
            for (int level = 0; level < 72; level++) {
                deep = x.type(box, deep, 0);
            }
            due("the deepest", deep, 78);
            int sub = x.type(x.classOf(2, deep), V0, V1);
            due("the last one", sub, 79);
            due("itself put in", x.seen(sub, box), deep);
            due("as ANY", x.seen(sub, 0), ANY);
            due("nothing is made", x.count(1), 80);
        }
    }

    private static void seenAs() {
        sentence = "as its own CLASS it is itself; .. SEEN AS that; else none";
        TypeFlow x = new TypeFlow();
        int top = x.classOf(1, ANY);
        int cls = top;
        for (int i = 2; i < 11; i++) {
            cls = x.classOf(1, x.type(cls, V0, 0));
        }
        int aside = x.classOf(0, ANY);
        int low = x.type(cls, ANY, 0);
        int other = x.type(aside, 0, 0);
        int before = x.count(1);
        due("CLASSES", x.count(0), 12);
        due("as its own", x.seen(low, cls), low);
        due("as one aside", x.seen(low, aside), NONE);
        due("as one that comes from it", x.seen(ANY, cls), NONE);
        due("one aside", x.seen(other, top), NONE);
        due("ANY as ANY", x.seen(ANY, 0), ANY);
        due("one without ARGUMENTS as ANY", x.seen(other, 0), ANY);
        due("nothing is made", x.count(1), before);
        due("as its PARENT'S CLASS", x.seen(low, cls - 1), before);
        due("one is made", x.count(1), before + 1);
        due("as the uppermost", x.seen(low, top), before + 8);
        for (int step = 0; step < 9; step++) {
            dueIs("on the way " + step, x, before + step, cls - 1 - step, ANY, NONE);
        }
        due("as ANY", x.seen(low, 0), ANY);
        due("nothing more is made", x.count(1), before + 9);
        for (int type = BIT; type <= V1; type++) {
            due("no class TYPE " + type, x.seen(type, 0), BAD);
        }
    }

    /** What a call answers with room for 0, 1, .. TYPES more, when it has to make so many. */
    private static void dueNeeds(String what, int needs, int[][] inOrder,
            ToIntFunction<TypeFlow> call, boolean answersType) {
        for (int room = 0; room <= needs + 1; room++) {
            TypeFlow x = roomy();
            leaveRoom(x, 6, room);
            int at = 80 - room;
            int answer = call.applyAsInt(x);
            int made = Math.min(room, needs);
            String name = what + " with room for " + room;
            due(name + ": is FULL", answer == FULL ? 1 : 0, room < needs ? 1 : 0);
            due(name + ": made", x.count(1), at + made);
            for (int i = 0; i < made; i++) {
                int[] row = inOrder[i];
                dueIs(name + ", made " + i, x, at + i, row[0], row[1] >= 100 ? at + row[1] - 100 : row[1],
                        row[2] >= 100 ? at + row[2] - 100 : row[2]);
            }
            if (answersType && room >= needs) {
                due(name + ": answer", answer, at + needs - 1);
            }
            due(name + ": again is FULL", call.applyAsInt(x) == FULL ? 1 : 0, room < needs ? 1 : 0);
            due(name + ": again made", x.count(1), at + made);
        }
    }

    /**
     * CLASSES 1 box (one VARIABLE), 2 pair, 3 leaf, 4 double with the PARENT pair of box of VARIABLE
     * 1 and box of VARIABLE 0, 5 crate with the PARENT double of VARIABLE 0 and leaf, 6 to fill up, 7
     * fellow with the PARENT double of VARIABLE 0 twice, 8 case with the PARENT box of VARIABLE 0.
     */
    private static TypeFlow roomy() {
        TypeFlow x = new TypeFlow();
        x.classOf(1, ANY);
        x.classOf(2, ANY);
        x.classOf(0, ANY);
        due("leaf", x.type(3, 0, 0), 7);
        due("box of VARIABLE 0", x.type(1, V0, 0), 8);
        due("box of VARIABLE 1", x.type(1, V1, 0), 9);
        due("pair", x.type(2, 9, 8), 10);
        x.classOf(2, 10);
        due("double", x.type(4, V0, 7), 11);
        x.classOf(1, 11);
        x.classOf(1, ANY);
        due("double of ANY, leaf", x.type(4, ANY, 7), 12);
        due("crate of ANY", x.type(5, ANY, 0), 13);
        due("crate of crate", x.type(5, 13, 0), 14);
        due("double of VARIABLE 0 twice", x.type(4, V0, V0), 15);
        x.classOf(1, 15);
        due("fellow of leaf", x.type(7, 7, 0), 16);
        x.classOf(1, 8);
        due("case of leaf", x.type(8, 7, 0), 17);
        return x;
    }

    private static void whatIsMadeStays() {
        sentence = "of each TYPE its ARGUMENTS, in order, ahead of it (what is made stays, also if"
                + " there is no room for the next one)";
        // 100 and more: the one that was made as the 0th, 1st, ..
        int[][] ofDouble = {{1, 7, NONE}, {1, ANY, NONE}, {2, 100, 101}};
        dueNeeds("seen double", 3, ofDouble, x -> x.seen(12, 2), true);
        dueNeeds("seen double as ANY", 3, ofDouble, x -> x.seen(12, 0), false);
        dueNeeds("goes double for ANY", 3, ofDouble, x -> x.goes(12, ANY), false);
        dueNeeds("common of double and leaf", 3, ofDouble, x -> x.common(12, 7), false);
        dueNeeds("common of leaf and double", 3, ofDouble, x -> x.common(7, 12), false);
    }

    private static void twoUp() {
        sentence = "its PARENT, with its ARGUMENTS put in, SEEN AS that";
        int[][] rows = {{4, 13, 7}, {1, 7, NONE}, {1, 13, NONE}, {2, 101, 102}};
        dueNeeds("crate of crate as pair", 4, rows, x -> x.seen(14, 2), true);
        dueNeeds("crate of crate as double", 1, rows, x -> x.seen(14, 4), true);
        dueNeeds("crate of ANY as double, which is there", 0, rows, x -> x.seen(13, 4), false);
        dueNeeds("crate as crate", 0, rows, x -> x.seen(14, 5), false);
        dueNeeds("crate as one aside", 0, rows, x -> x.seen(14, 3), false);
        dueNeeds("ANY as crate", 0, rows, x -> x.seen(ANY, 5), false);
        dueNeeds("crate for itself", 0, rows, x -> x.goes(14, 14), false);
        dueNeeds("crate for leaf", 0, rows, x -> x.goes(14, 7), false);
        dueNeeds("crate for INT", 0, rows, x -> x.goes(14, INT), false);
        dueNeeds("ANY for crate", 0, rows, x -> x.goes(ANY, 14), false);
        dueNeeds("crate for crate of another", 0, rows, x -> x.goes(14, 13), false);
        dueNeeds("crate for double", 1, rows, x -> x.goes(14, 12), false);
        dueNeeds("common of the same", 0, rows, x -> x.common(14, 14), false);
        dueNeeds("common with a PRIMITIVE", 0, rows, x -> x.common(14, INT), false);
    }

    private static void firstIsSeenAhead() {
        sentence = "the first one is SEEN ahead of the second";
        // Both are crates, but not the same: then as double (12 is there), as pair, as ANY.
        int[][] rows = {{4, 13, 7}, {1, 7, NONE}, {1, 13, NONE}, {2, 101, 102}, {1, ANY, NONE},
            {2, 101, 104}};
        dueNeeds("common of crates", 6, rows, x -> x.common(14, 13), false);
        int[][] turned = {{4, 13, 7}, {1, 7, NONE}, {1, ANY, NONE}, {2, 101, 102}, {1, 13, NONE},
            {2, 101, 104}};
        dueNeeds("common of crates, turned", 6, turned, x -> x.common(13, 14), false);
        due("as ANY alone", roomy().common(14, 13), ANY);
        // Not of one CLASS: each as double, then each as pair, then as ANY.
        int[][] aside = {{4, 13, 7}, {4, 7, 7}, {1, 7, NONE}, {1, 13, NONE}, {2, 102, 103},
            {2, 102, 102}};
        dueNeeds("common of crate and its fellow", 6, aside, x -> x.common(14, 16), false);
        int[][] asideTurned = {{4, 7, 7}, {4, 13, 7}, {1, 7, NONE}, {2, 102, 102}, {1, 13, NONE},
            {2, 102, 104}};
        dueNeeds("common of fellow and crate", 6, asideTurned, x -> x.common(16, 14), false);
        due("as ANY alone", roomy().common(14, 16), ANY);
        // ANY alone is above both: all of the first one, also below the CLASS of both, is ahead.
        int[][] apart = {{1, 7, NONE}, {4, 13, 7}, {1, 13, NONE}, {2, 100, 102}};
        dueNeeds("common of case and crate", 4, apart, x -> x.common(17, 14), false);
        int[][] apartTurned = {{4, 13, 7}, {1, 7, NONE}, {1, 13, NONE}, {2, 101, 102}};
        dueNeeds("common of crate and case", 4, apartTurned, x -> x.common(14, 17), false);
    }

    private static void goesFor() {
        sentence = "one GOES FOR itself; INT for LONG and for REAL";
        TypeFlow x = new TypeFlow();
        for (int one = BIT; one <= REAL; one++) {
            for (int two = BIT; two <= REAL; two++) {
                int want = one == two || one == INT && two >= LONG ? 1 : 0;
                due(one + " for " + two, x.goes(one, two), want);
            }
            due(one + " for ANY", x.goes(one, ANY), 0);
            due("ANY for " + one, x.goes(ANY, one), 0);
        }
        due("ANY for itself", x.goes(ANY, ANY), 1);

        sentence = "a class TYPE for another one, if it is that, SEEN AS its CLASS";
        int box = x.classOf(1, ANY);
        int bag = x.classOf(1, x.type(box, V0, 0));
        int boxAny = x.type(box, ANY, 0);
        int boxBox = x.type(box, boxAny, 0);
        int bagAny = x.type(bag, ANY, 0);
        int bagBox = x.type(bag, boxAny, 0);
        int boxBag = x.type(box, bagAny, 0);
        int[] all = {ANY, boxAny, boxBox, bagAny, bagBox, boxBag};
        int[][] goes = {{1, 0, 0, 0, 0, 0}, {1, 1, 0, 0, 0, 0}, {1, 0, 1, 0, 0, 0},
            {1, 1, 0, 1, 0, 0}, {1, 0, 1, 0, 1, 0}, {1, 0, 0, 0, 0, 1}};
        for (int one = 0; one < all.length; one++) {
            for (int two = 0; two < all.length; two++) {
                due(all[one] + " for " + all[two], x.goes(all[one], all[two]), goes[one][two]);
            }
        }
    }

    private static void commonOfTwo() {
        sentence = "of INT and LONG LONG, of INT and REAL REAL";
        TypeFlow x = new TypeFlow();
        for (int one = BIT; one <= REAL; one++) {
            for (int two = BIT; two <= REAL; two++) {
                int want = one == two ? one : one == INT && two >= LONG ? two
                        : two == INT && one >= LONG ? one : NONE;
                due(one + ", " + two, x.common(one, two), want);
            }
            due(one + ", ANY", x.common(one, ANY), NONE);
            due("ANY, " + one, x.common(ANY, one), NONE);
        }
        sentence = "the first CLASS from which that of the second one comes, too (or which it is),"
                + " and as which both are the same";
        int box = x.classOf(1, ANY);
        int bag = x.classOf(1, x.type(box, V0, 0));
        int sack = x.classOf(1, x.type(bag, V0, 0));
        int tin = x.classOf(1, x.type(bag, V0, 0));
        int fixed = x.classOf(1, x.type(box, ANY, 0));
        int boxAny = x.type(box, ANY, 0);
        int bagAny = x.type(bag, ANY, 0);
        int sackAny = x.type(sack, ANY, 0);
        int tinAny = x.type(tin, ANY, 0);
        int tinBox = x.type(tin, boxAny, 0);
        int fixedBox = x.type(fixed, boxAny, 0);
        int fixedBag = x.type(fixed, bagAny, 0);
        int[][] rows = {{ANY, ANY, ANY}, {boxAny, bagAny, boxAny}, {sackAny, bagAny, bagAny},
            {sackAny, boxAny, boxAny}, {sackAny, tinAny, bagAny}, {sackAny, tinBox, ANY},
            {tinAny, tinBox, ANY}, {fixedBox, fixedBag, boxAny}, {fixedBox, sackAny, boxAny},
            {fixedBox, tinBox, ANY}, {fixedBox, boxAny, boxAny}, {sackAny, ANY, ANY},
            {sackAny, sackAny, sackAny}};
        for (int[] row : rows) {
            due("common " + row[0] + ", " + row[1], x.common(row[0], row[1]), row[2]);
            due("common " + row[1] + ", " + row[0], x.common(row[1], row[0]), row[2]);
        }
    }

    private static void members() {
        sentence = "MEMBERS 0 .. 23 are each of a CLASS, and of a TYPE";
        TypeFlow x = new TypeFlow();
        int pair = x.classOf(2, ANY);
        int rows = x.operator(0, 0, 0, x.type(pair, ANY, ANY), 0, 0);
        for (int member = 0; member < 24; member++) {
            due("before", x.operator(3, rows, 0, member, 0, 0), BAD);
            due("member", x.member(member == 23 ? pair : 0, member == 23 ? V1 : member % 4), member);
            due("so many", x.count(2), member + 1);
        }
        int last = x.operator(3, rows, 0, 23, 0, 0);
        int first = x.operator(3, rows, 0, 0, 0, 0);
        due("the next one", x.operator(3, rows, 0, 24, 0, 0), BAD);
        for (int again = 0; again < 3; again++) {
            due("a 25th", x.member(0, BIT), FULL);
            due("so many", x.count(2), 24);
        }
        due("BAD ahead of FULL: CLASS", x.member(2, BIT), BAD);
        due("BAD ahead of FULL: TYPE", x.member(0, 8), BAD);
        due("BAD ahead of FULL: VARIABLE", x.member(0, V0), BAD);
        due("flow", x.flow(), 3);
        due("the last one", x.comes(last), ANY);
        due("the first one", x.comes(first), BIT);

        sentence = "a TYPE in whose VARIABLES only those of the CLASS stand";
        TypeFlow y = new TypeFlow();
        int[] classes = {0, y.classOf(1, ANY), y.classOf(2, ANY)};
        int[] with0 = {V0, y.type(1, V0, 0), y.type(2, ANY, V0), y.type(2, 7, ANY)};
        int[] with1 = {V1, y.type(1, V1, 0), y.type(2, ANY, V1), y.type(2, V0, V1)};
        int made = 0;
        for (int howMany = 0; howMany <= 2; howMany++) {
            for (int i = 0; i < 4; i++) {
                due("VARIABLE 0", y.member(classes[howMany], with0[i]), howMany > 0 ? made++ : BAD);
                due("VARIABLE 1", y.member(classes[howMany], with1[i]), howMany > 1 ? made++ : BAD);
            }
            due("a PRIMITIVE", y.member(classes[howMany], REAL), made++);
            due("ANY", y.member(classes[howMany], ANY), made++);
        }
    }

    private static void about() {
        sentence = "what = 0 its CLASS (NONE of PRIMITIVES, VARIABLES), 1, 2 its ARGUMENTS (NONE"
                + " without), 3 whether it is CLOSED";
        TypeFlow x = new TypeFlow();
        int[] classes = {0, x.classOf(0, ANY), x.classOf(1, ANY), x.classOf(2, ANY)};
        for (int type = BIT; type <= V1; type++) {
            dueIs("TYPE " + type, x, type, NONE, NONE, NONE);
        }
        dueIs("ANY", x, ANY, 0, NONE, NONE);
        dueIs("no ARGUMENTS", x, x.type(classes[1], ANY, ANY), classes[1], NONE, NONE);
        dueIs("one ARGUMENT", x, x.type(classes[2], V1, ANY), classes[2], V1, NONE);
        dueIs("two ARGUMENTS", x, x.type(classes[3], V1, 7), classes[3], V1, 7);
        for (int type = BIT; type <= 9; type++) {
            due("what -1", x.about(type, -1), BAD);
            due("what 4", x.about(type, 4), BAD);
            due("what, the smallest", x.about(type, Integer.MIN_VALUE), BAD);
            due("what, the largest", x.about(type, Integer.MAX_VALUE), BAD);
        }
        for (int what = 0; what < 4; what++) {
            due("TYPE -1", x.about(-1, what), BAD);
            due("TYPE 10", x.about(10, what), BAD);
        }
    }

    /** The reasons of an OPERATOR, with room for 0, 1, .. TYPES more, when it has to make so many. */
    private static void dueFlowNeeds(String what, int needs, ToIntFunction<TypeFlow> maker) {
        for (int room = 0; room <= needs + 1; room++) {
            TypeFlow x = roomy();
            x.operator(0, 0, 0, 12, 0, 0);
            x.operator(0, 0, 0, 14, 0, 0);
            x.operator(0, 0, 0, ANY, 0, 0);
            int operator = maker.applyAsInt(x);
            int next = x.operator(4, operator, operator, 0, 0, 0);
            leaveRoom(x, 6, room);
            int made = Math.min(room, needs);
            boolean fits = room >= needs;
            String name = what + " with room for " + room;
            for (int again = 0; again < 2; again++) {
                due(name + ": flow", x.flow(), fits ? 5 : 3);
                due(name + ": reason", x.reason(operator), fits ? 0 : NO_ROOM);
                due(name + ": has a TYPE", x.comes(operator) == NONE ? 0 : 1, fits ? 1 : 0);
                due(name + ": the next one", x.reason(next), fits ? 0 : EARLIER);
                due(name + ": made", x.count(1), 80 - room + made);
            }
        }
    }

    private static void reasonFull() {
        sentence = "8 FULL (no room for a TYPE)";
        dueFlowNeeds("SOURCE", 0, x -> x.operator(0, 0, 0, 12, 0, 0));
        dueFlowNeeds("MAP: SEEN", 3, x -> x.operator(1, 0, 0, x.function(10, NONE, V0), 0, 0));
        dueFlowNeeds("MAP: result", 1, x -> x.operator(1, 0, 0, x.function(V0, NONE, 8), 0, 0));
        dueFlowNeeds("MAP: result with ARGUMENTS", 2, x -> x.operator(1, 0, 0,
                x.function(V1, NONE, x.type(2, V1, 9)), 0, 0));
        dueFlowNeeds("MAP: result is there", 0, x -> x.operator(1, 0, 0,
                x.function(11, NONE, 11), 0, 0));
        dueFlowNeeds("FILTER: SEEN", 3, x -> x.operator(2, 0, 0, x.function(10, NONE, BIT), 0, 0));
        dueFlowNeeds("FILTER: ANY", 3, x -> x.operator(2, 0, 0, x.function(ANY, NONE, BIT), 0, 0));
        dueFlowNeeds("FILTER: nothing", 0, x -> x.operator(2, 0, 0, x.function(V0, NONE, BIT), 0, 0));
        dueFlowNeeds("MAP: BOUND", 3, x -> {
            int f = x.function(V0, NONE, V0);
            x.bound(f, 0, ANY);
            return x.operator(1, 0, 0, f, 0, 0);
        });
        dueFlowNeeds("ZIP: BOUND of VARIABLE 1", 3, x -> {
            int f = x.function(V0, V1, V0);
            x.bound(f, 1, ANY);
            return x.operator(5, 1, 0, f, 0, 0);
        });
        dueFlowNeeds("ZIP: second SEEN", 3,
                x -> x.operator(5, 0, 0, x.function(12, 10, BIT), 0, 0));
        dueFlowNeeds("MEMBER: SEEN", 3, x -> x.operator(3, 0, 0, x.member(0, INT), 0, 0));
        dueFlowNeeds("MEMBER: its TYPE", 1, x -> x.operator(3, 0, 0, x.member(4, 8), 0, 0));
        dueFlowNeeds("MEMBER: with ARGUMENTS", 3, x -> x.operator(3, 0, 0, x.member(4, 10), 0, 0));
        dueFlowNeeds("MEMBER: nothing", 0, x -> x.operator(3, 0, 0, x.member(4, V1), 0, 0));
        dueFlowNeeds("UNION of the same", 0, x -> x.operator(4, 1, 1, 0, 0, 0));
        dueFlowNeeds("UNION", 6, x -> x.operator(4, 0, 1, 0, 0, 0));
        dueFlowNeeds("CAST up", 3, x -> x.operator(7, 0, 0, ANY, 0, 0));
        dueFlowNeeds("CAST down", 3, x -> x.operator(7, 2, 0, 12, 0, 0));
        dueFlowNeeds("CAST to itself", 0, x -> x.operator(7, 0, 0, 12, 0, 0));
    }

    private static void reasonFullOfJoin() {
        sentence = "8 FULL (no room for a TYPE), of JOIN";
        dueFlowNeeds("its TYPE", 1, x -> {
            int key = x.member(4, INT);
            return x.operator(6, 0, 0, key, key, 2);
        });
        dueFlowNeeds("the key of a", 4, x -> {
            int seen = x.member(2, INT);
            return x.operator(6, 0, 1, seen, x.member(5, LONG), 2);
        });
        dueFlowNeeds("the key of b", 4, x -> {
            int seen = x.member(2, INT);
            return x.operator(6, 1, 0, x.member(5, LONG), seen, 2);
        });
        dueFlowNeeds("the key of a for that of b", 5, x -> {
            int crate = x.member(5, 14);
            return x.operator(6, 1, 0, crate, x.member(4, ANY), 2);
        });
        dueFlowNeeds("the key of b for that of a", 5, x -> {
            int crate = x.member(5, 14);
            return x.operator(6, 0, 1, x.member(4, ANY), crate, 2);
        });
    }

    /** A fault that is found only when a TYPE has been made, which stays. */
    private static void madeAheadOfTheFault() {
        sentence = "TYPES that are made stay";
        for (int room = 0; room < 2; room++) {
            TypeFlow x = roomy();
            x.operator(0, 0, 0, 12, 0, 0);
            x.operator(0, 0, 0, 14, 0, 0);
            int cast = x.operator(7, 0, 0, 14, 0, 0);
            int join = x.operator(6, 1, 0, x.member(5, 14), x.member(4, 12), 2);
            int f = x.function(V0, NONE, 8);
            int filter = x.operator(2, 0, 0, f, 0, 0);
            leaveRoom(x, 6, room);
            due("flow", x.flow(), 2);
            due("TYPES", x.count(1), 80);
            due("CAST", x.reason(cast), room == 0 ? NO_ROOM : APART);
            due("JOIN", x.reason(join), room == 0 ? NO_ROOM : APART);
            due("FILTER", x.reason(filter), NO_ROOM);
        }
        TypeFlow x = roomy();
        x.operator(0, 0, 0, 12, 0, 0);
        x.operator(2, 0, 0, x.function(V0, NONE, 8), 0, 0);
        due("flow", x.flow(), 1);
        due("FILTER that gives no BIT", x.reason(1), 1);
        dueIs("what it gave", x, 18, 1, 12, NONE);
    }

    public static void main(String[] args) {
        newObject();
        classesAre0To11();
        variables0To2();
        parentIsClassType();
        types80AtMost();
        sameOneOnce();
        argumentsAreVariablesOrClassTypes();
        closed();
        puttingIn();
        puttingInDeepDown();
        seenAs();
        whatIsMadeStays();
        twoUp();
        firstIsSeenAhead();
        goesFor();
        commonOfTwo();
        members();
        about();
        reasonFull();
        reasonFullOfJoin();
        madeAheadOfTheFault();
        System.out.println(wrong == 0 ? "all answers are as due" : wrong + " answers are not as due");
        if (wrong != 0) {
            System.exit(1);
        }
    }
}
