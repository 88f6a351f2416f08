import java.util.ArrayList;
import java.util.Arrays;
import java.util.HashMap;
import java.util.List;
import java.util.Map;
import java.util.Random;

/**
 * Long runs of calls, each answer compared with that of a second program, which is written from the
 * document alone: trees with texts, recursion and exceptions where TypeFlow has rows of numbers.
 */
public final class ModelTest {
    /** With all that is asked at its end, a run has no more calls than the 512 that are promised. */
    private static final int RUNS = 40000, FEWEST_CALLS = 70, MOST_CALLS = 320, LONGEST_TEXT = 20000;

    /** A TYPE as a tree: a leaf ("p0" .. "p3", "v0", "v1"), or a CLASS with parts. */
    private static final class Tree {
        final String leaf;
        final int cls;
        final List<Tree> parts;
        final String text;

        Tree(String leaf, int cls, List<Tree> parts) {
            this.leaf = leaf;
            this.cls = cls;
            this.parts = parts;
            StringBuilder b = new StringBuilder();
            if (leaf != null) {
                b.append(leaf);
            } else {
                b.append('c').append(cls).append('<');
                for (Tree part : parts) {
                    b.append(part.text).append(',');
                }
                b.append('>');
            }
            if (b.length() > LONGEST_TEXT) {
                throw new TooLong();
            }
            text = b.toString();
        }

        boolean isPrimitive() {
            return leaf != null && leaf.startsWith("p");
        }

        boolean isVariable() {
            return leaf != null && leaf.startsWith("v");
        }

        boolean isClassType() {
            return leaf == null;
        }

        boolean isClosed() {
            return text.indexOf('v') < 0;
        }

        boolean is(Tree other) {
            return text.equals(other.text);
        }
    }

    /** A run whose trees grow beyond what can be written out ends early. */
    private static final class TooLong extends RuntimeException {
        private static final long serialVersionUID = 1;
    }

    private static final class Fault extends RuntimeException {
        private static final long serialVersionUID = 1;
        final int reason;

        Fault(int reason) {
            super(null, null, false, false);
            this.reason = reason;
        }
    }

    private static final class Bad extends RuntimeException {
        private static final long serialVersionUID = 1;

        Bad() {
            super(null, null, false, false);
        }
    }

    private static final class Full extends RuntimeException {
        private static final long serialVersionUID = 1;

        Full() {
            super(null, null, false, false);
        }
    }

    private static final class Cls {
        int variables;
        Tree parent;
    }

    private static final class Fun {
        List<Tree> parameters = new ArrayList<>();
        Tree result;
        Tree[] bounds = new Tree[2];
    }

    private static final class Mem {
        int cls;
        Tree type;
    }

    private static final class Op {
        int kind, a, b, f, g, c;
        Tree comes;
        int reason;
        boolean risky;
        Tree[] bound = new Tree[2];
    }

    private static final class Model {
        final List<Cls> classes = new ArrayList<>();
        final List<Tree> types = new ArrayList<>();
        final Map<String, Integer> numbers = new HashMap<>();
        final List<Mem> members = new ArrayList<>();
        final List<Fun> functions = new ArrayList<>();
        final List<Op> operators = new ArrayList<>();

        Model() {
            classes.add(new Cls());
            for (String leaf : new String[] {"p0", "p1", "p2", "p3", "v0", "v1"}) {
                put(new Tree(leaf, -1, List.of()));
            }
            put(new Tree(null, 0, List.of()));
        }

        private int put(Tree t) {
            numbers.put(t.text, types.size());
            types.add(t);
            return types.size() - 1;
        }

        private int number(Tree t) {
            return numbers.get(t.text);
        }

        private static void need(boolean holds) {
            if (!holds) {
                throw new Bad();
            }
        }

        private <X> X in(List<X> list, int number) {
            need(number >= 0 && number < list.size());
            return list.get(number);
        }

        private static void room(List<?> list, int most) {
            if (list.size() == most) {
                throw new Full();
            }
        }

        private Tree make(Tree t) {
            for (Tree part : t.parts) {
                make(part);
            }
            if (!numbers.containsKey(t.text)) {
                room(types, 80);
                put(t);
            }
            return t;
        }

        private static Tree replace(Tree t, List<Tree> with) {
            if (t.isPrimitive()) {
                return t;
            }
            if (t.isVariable()) {
                return with.get(t.leaf.charAt(1) - '0');
            }
            List<Tree> parts = new ArrayList<>();
            for (Tree part : t.parts) {
                parts.add(replace(part, with));
            }
            return new Tree(null, t.cls, parts);
        }

        private List<Integer> line(int cls) {
            List<Integer> all = new ArrayList<>();
            for (int at = cls; at != 0; at = classes.get(at).parent.cls) {
                all.add(at);
            }
            all.add(0);
            return all;
        }

        /** null: none. */
        private Tree see(Tree t, int cls) {
            if (t.cls == cls) {
                return t;
            }
            if (!line(t.cls).contains(cls)) {
                return null;
            }
            return see(make(replace(classes.get(t.cls).parent, t.parts)), cls);
        }

        private boolean fits(Tree one, Tree two) {
            if (one.is(two)) {
                return true;
            }
            if (one.isPrimitive() || two.isPrimitive()) {
                return one.text.equals("p1") && (two.text.equals("p2") || two.text.equals("p3"));
            }
            Tree seen = see(one, two.cls);
            return seen != null && seen.is(two);
        }

        private Tree shared(Tree one, Tree two) {
            if (one.is(two)) {
                return one;
            }
            if (one.isPrimitive() && two.isPrimitive()) {
                return fits(one, two) ? two : fits(two, one) ? one : null;
            }
            if (one.isPrimitive() || two.isPrimitive()) {
                return null;
            }
            for (int cls : line(one.cls)) {
                if (line(two.cls).contains(cls)) {
                    Tree first = see(one, cls);
                    Tree second = see(two, cls);
                    if (first.is(second)) {
                        return first;
                    }
                }
            }
            return null;
        }

        private static void bindOne(Tree variable, Tree to, Tree[] bound) {
            int which = variable.leaf.charAt(1) - '0';
            if (bound[which] == null) {
                bound[which] = to;
            } else if (!bound[which].is(to)) {
                throw new Fault(2);
            }
        }

        private void parts(Tree wanted, Tree given, Tree[] bound) {
            for (int i = 0; i < wanted.parts.size(); i++) {
                Tree want = wanted.parts.get(i);
                Tree have = given.parts.get(i);
                if (want.isVariable()) {
                    bindOne(want, have, bound);
                } else {
                    if (want.cls != have.cls) {
                        throw new Fault(1);
                    }
                    parts(want, have, bound);
                }
            }
        }

        private Tree apply(Fun fun, List<Tree> to, Tree[] bound) {
            for (int i = 0; i < fun.parameters.size(); i++) {
                Tree want = fun.parameters.get(i);
                Tree have = to.get(i);
                if (want.isPrimitive()) {
                    if (!have.isPrimitive() || !fits(have, want)) {
                        throw new Fault(1);
                    }
                } else if (have.isPrimitive()) {
                    throw new Fault(1);
                } else if (want.isVariable()) {
                    bindOne(want, have, bound);
                } else {
                    Tree seen = see(have, want.cls);
                    if (seen == null) {
                        throw new Fault(1);
                    }
                    parts(want, seen, bound);
                }
            }
            for (int v = 0; v < 2; v++) {
                if (bound[v] != null && fun.bounds[v] != null && !fits(bound[v], fun.bounds[v])) {
                    throw new Fault(3);
                }
            }
            for (int v = 0; v < 2; v++) {
                if (bound[v] == null && fun.result.text.contains("v" + v)) {
                    throw new Fault(4);
                }
            }
            return make(replace(fun.result, Arrays.asList(bound)));
        }

        private Tree ofMember(Tree t, int m) {
            Mem mem = members.get(m);
            Tree seen = t.isPrimitive() ? null : see(t, mem.cls);
            if (seen == null) {
                throw new Fault(5);
            }
            return make(replace(mem.type, seen.parts));
        }

        private Tree work(Op op) {
            if (op.kind == 0) {
                return types.get(op.f);
            }
            boolean two = op.kind >= 4 && op.kind <= 6;
            Tree a = operators.get(op.a).comes;
            Tree b = two ? operators.get(op.b).comes : null;
            if (a == null || two && b == null) {
                throw new Fault(7);
            }
            switch (op.kind) {
                case 1:
                    return apply(functions.get(op.f), List.of(a), op.bound);
                case 2:
                    if (!apply(functions.get(op.f), List.of(a), op.bound).text.equals("p0")) {
                        throw new Fault(1);
                    }
                    return a;
                case 3:
                    return ofMember(a, op.f);
                case 4:
                    Tree common = shared(a, b);
                    if (common == null) {
                        throw new Fault(6);
                    }
                    return common;
                case 5:
                    return apply(functions.get(op.f), List.of(a, b), op.bound);
                case 6:
                    Tree left = ofMember(a, op.f);
                    Tree right = ofMember(b, op.g);
                    if (!fits(left, right) && !fits(right, left)) {
                        throw new Fault(6);
                    }
                    return make(new Tree(null, op.c, List.of(a, b)));
                default:
                    Tree u = types.get(op.f);
                    if (fits(a, u)) {
                        return u;
                    }
                    boolean numbers = a.isPrimitive() && u.isPrimitive()
                            && !a.text.equals("p0") && !u.text.equals("p0");
                    if (numbers || fits(u, a)) {
                        op.risky = true;
                        return u;
                    }
                    throw new Fault(6);
            }
        }

        private int flow() {
            int typed = 0;
            for (Op op : operators) {
                op.comes = null;
                op.reason = 0;
                op.risky = false;
                op.bound = new Tree[2];
                try {
                    op.comes = work(op);
                    typed++;
                } catch (Fault fault) {
                    op.reason = fault.reason;
                } catch (Full full) {
                    op.reason = 8;
                }
            }
            return typed;
        }

        private int operator(int[] n) {
            int kind = n[0];
            need(kind >= 0 && kind <= 7);
            if (kind == 0 || kind == 7) {
                need(in(types, n[3]).isClosed());
            }
            if (kind != 0) {
                in(operators, n[1]);
            }
            if (kind >= 4 && kind <= 6) {
                in(operators, n[2]);
            }
            if (kind == 1 || kind == 2 || kind == 5) {
                need(in(functions, n[3]).parameters.size() == (kind == 5 ? 2 : 1));
            }
            if (kind == 3 || kind == 6) {
                in(members, n[3]);
            }
            if (kind == 6) {
                in(members, n[4]);
                need(in(classes, n[5]).variables == 2);
            }
            room(operators, 24);
            Op op = new Op();
            op.kind = kind;
            op.a = n[1];
            op.b = n[2];
            op.f = n[3];
            op.g = n[4];
            op.c = n[5];
            operators.add(op);
            return operators.size() - 1;
        }

        private static boolean only(Tree t, int variables) {
            return !(variables < 2 && t.text.contains("v1") || variables < 1 && t.text.contains("v0"));
        }

        private int classOf(int variables, int parent) {
            need(variables >= 0 && variables <= 2);
            Tree above = in(types, parent);
            need(above.isClassType() && only(above, variables));
            room(classes, 12);
            Cls made = new Cls();
            made.variables = variables;
            made.parent = above;
            classes.add(made);
            return classes.size() - 1;
        }

        private int type(int cls, int a, int b) {
            int needed = in(classes, cls).variables;
            List<Tree> parts = new ArrayList<>();
            for (int i = 0; i < needed; i++) {
                Tree part = in(types, i == 0 ? a : b);
                need(!part.isPrimitive());
                parts.add(part);
            }
            return number(make(new Tree(null, cls, parts)));
        }

        private int member(int cls, int type) {
            need(only(in(types, type), in(classes, cls).variables));
            room(members, 24);
            Mem made = new Mem();
            made.cls = cls;
            made.type = types.get(type);
            members.add(made);
            return members.size() - 1;
        }

        private int function(int first, int second, int result) {
            Fun made = new Fun();
            made.parameters.add(in(types, first));
            if (second != -1) {
                made.parameters.add(in(types, second));
            }
            made.result = in(types, result);
            room(functions, 16);
            functions.add(made);
            return functions.size() - 1;
        }

        private int bound(int function, int variable, int type) {
            Fun fun = in(functions, function);
            need(variable == 0 || variable == 1);
            Tree limit = type == -1 ? null : in(types, type);
            need(limit == null || limit.isClassType() && limit.isClosed());
            fun.bounds[variable] = limit;
            return 1;
        }

        private int orNone(Tree t) {
            return t == null ? -1 : number(t);
        }

        private Tree closed(int type) {
            Tree t = in(types, type);
            need(t.isClosed());
            return t;
        }

        private int cast(int k) {
            List<Integer> all = new ArrayList<>();
            for (int i = 0; i < operators.size(); i++) {
                if (operators.get(i).risky) {
                    all.add(i);
                }
            }
            return k >= 0 && k < all.size() ? all.get(k) : -1;
        }

        private int about(int type, int what) {
            Tree t = in(types, type);
            need(what >= 0 && what <= 3);
            if (what == 0) {
                return t.cls;
            }
            if (what == 3) {
                return t.isClosed() ? 1 : 0;
            }
            return t.parts.size() >= what ? number(t.parts.get(what - 1)) : -1;
        }

        private int count(int what) {
            need(what >= 0 && what <= 5);
            int risky = 0;
            while (cast(risky) != -1) {
                risky++;
            }
            return new int[] {classes.size(), types.size(), members.size(), functions.size(),
                operators.size(), risky}[what];
        }

        int answer(int call, int[] n) {
            try {
                return plain(call, n);
            } catch (Bad bad) {
                return -2;
            } catch (Full full) {
                return -3;
            }
        }

        private int plain(int call, int[] n) {
            switch (call) {
                case 0:
                    return classOf(n[0], n[1]);
                case 1:
                    return type(n[0], n[1], n[2]);
                case 2:
                    return member(n[0], n[1]);
                case 3:
                    return function(n[0], n[1], n[2]);
                case 4:
                    return bound(n[0], n[1], n[2]);
                case 5:
                    return operator(n);
                case 6:
                    int gone = operators.size();
                    operators.clear();
                    return gone;
                case 7:
                    return flow();
                case 8:
                    return orNone(in(operators, n[0]).comes);
                case 9:
                    return in(operators, n[0]).reason;
                case 10:
                    return in(operators, n[0]).risky ? 1 : 0;
                case 11:
                    return cast(n[0]);
                case 12:
                    Op op = in(operators, n[0]);
                    need(n[1] == 0 || n[1] == 1);
                    return op.comes == null ? -1 : orNone(op.bound[n[1]]);
                case 13:
                    Tree goer = closed(n[0]);
                    return fits(goer, closed(n[1])) ? 1 : 0;
                case 14:
                    Tree one = closed(n[0]);
                    return orNone(shared(one, closed(n[1])));
                case 15:
                    Tree t = in(types, n[0]);
                    need(t.isClassType());
                    in(classes, n[1]);
                    return orNone(see(t, n[1]));
                case 16:
                    return about(n[0], n[1]);
                default:
                    return count(n[0]);
            }
        }
    }

    private static final String[] NAMES = {"classOf", "type", "member", "function", "bound",
        "operator", "clear", "flow", "comes", "reason", "mayFail", "cast", "boundTo", "goes",
        "common", "seen", "about", "count"};

    private static int answer(TypeFlow x, int call, int[] n) {
        switch (call) {
            case 0:
                return x.classOf(n[0], n[1]);
            case 1:
                return x.type(n[0], n[1], n[2]);
            case 2:
                return x.member(n[0], n[1]);
            case 3:
                return x.function(n[0], n[1], n[2]);
            case 4:
                return x.bound(n[0], n[1], n[2]);
            case 5:
                return x.operator(n[0], n[1], n[2], n[3], n[4], n[5]);
            case 6:
                return x.clear();
            case 7:
                return x.flow();
            case 8:
                return x.comes(n[0]);
            case 9:
                return x.reason(n[0]);
            case 10:
                return x.mayFail(n[0]);
            case 11:
                return x.cast(n[0]);
            case 12:
                return x.boundTo(n[0], n[1]);
            case 13:
                return x.goes(n[0], n[1]);
            case 14:
                return x.common(n[0], n[1]);
            case 15:
                return x.seen(n[0], n[1]);
            case 16:
                return x.about(n[0], n[1]);
            default:
                return x.count(n[0]);
        }
    }

    /** Mostly a number that is there, seldom one just beside, very seldom a wild one. */
    private static int pick(Random r, int from, int size) {
        int dice = r.nextInt(200);
        if (dice == 0) {
            return r.nextInt();
        }
        if (dice < 6) {
            return r.nextInt(size - from + 4) + from - 2;
        }
        return size <= from ? from : from + r.nextInt(size - from);
    }

    private static int pickClosed(Random r, Model m, boolean onlyClasses) {
        int type = 6;
        for (int i = 0; i < 12; i++) {
            type = pick(r, onlyClasses ? 6 : 0, m.types.size());
            if (type >= 0 && type < m.types.size() && m.types.get(type).isClosed()) {
                return type;
            }
        }
        return type;
    }

    private static int pickParent(Random r, Model m, int variables) {
        int type = 6;
        for (int i = 0; i < 12; i++) {
            type = pick(r, 6, m.types.size());
            if (type >= 6 && type < m.types.size() && Model.only(m.types.get(type), variables)
                    && m.types.get(type).text.length() < 40 && (type != 6 || r.nextInt(4) == 0)) {
                return type;
            }
        }
        return type;
    }

    private static int pickSmall(Random r, Model m, int from) {
        int type = from;
        for (int i = 0; i < 8; i++) {
            type = pick(r, from, m.types.size());
            if (type < 0 || type >= m.types.size() || m.types.get(type).text.length() < 60) {
                return type;
            }
        }
        return type;
    }

    private static int pickClass(Random r, Model m, int variables) {
        int cls = 0;
        for (int i = 0; i < 8; i++) {
            cls = pick(r, 0, m.classes.size());
            if (cls >= 0 && cls < m.classes.size() && m.classes.get(cls).variables >= variables) {
                return cls;
            }
        }
        return cls;
    }

    private static int pickFunction(Random r, Model m, int parameters) {
        int function = 0;
        for (int i = 0; i < 8; i++) {
            function = pick(r, 0, m.functions.size());
            if (function >= 0 && function < m.functions.size()
                    && m.functions.get(function).parameters.size() == parameters) {
                return function;
            }
        }
        return function;
    }

    private static int pickCall(Random r, int made, int[] weights) {
        int[] early = {12, 40, 6, 10, 3};
        if (made < 60) {
            int dice = r.nextInt(71);
            for (int call = 0; call < early.length; call++) {
                dice -= early[call];
                if (dice < 0) {
                    return call;
                }
            }
        }
        int sum = 0;
        for (int weight : weights) {
            sum += weight;
        }
        int dice = r.nextInt(sum);
        for (int call = 0; call < weights.length; call++) {
            dice -= weights[call];
            if (dice < 0) {
                return call;
            }
        }
        return 7;
    }

    private static int pickResult(Random r, Model m) {
        return r.nextInt(3) == 0 ? r.nextInt(4) == 0 ? r.nextInt(6) : 0 : pickSmall(r, m, 4);
    }

    private static int[] pickNumbers(Random r, Model m, int call) {
        int types = m.types.size();
        int ops = m.operators.size();
        switch (call) {
            case 0:
                int variables = pick(r, 0, 3);
                return new int[] {variables, pickParent(r, m, variables)};
            case 1:
                return new int[] {pickClass(r, m, 1), pickSmall(r, m, 4), pickSmall(r, m, 4)};
            case 2:
                int cls = pickClass(r, m, r.nextInt(3));
                return new int[] {cls, r.nextInt(3) == 0 ? pick(r, 0, 6) : pickSmall(r, m, 0)};
            case 3:
                int second = r.nextInt(2) == 0 ? -1 : pickSmall(r, m, r.nextInt(4) == 0 ? 0 : 4);
                int first = pickSmall(r, m, r.nextInt(4) == 0 ? 0 : 4);
                return new int[] {first, second, pickResult(r, m)};
            case 4:
                int limit = r.nextInt(3) == 0 ? -1 : pickClosed(r, m, true);
                return new int[] {pick(r, 0, m.functions.size()), pick(r, 0, 2), limit};
            case 5:
                return operatorNumbers(r, m, ops);
            case 11:
                return new int[] {pick(r, 0, 4)};
            case 12:
                return new int[] {pick(r, 0, ops), pick(r, 0, 2)};
            case 13:
            case 14:
                boolean onlyClasses = r.nextInt(6) != 0;
                return new int[] {pickClosed(r, m, onlyClasses), pickClosed(r, m, onlyClasses)};
            case 15:
                return new int[] {pick(r, 6, types), pick(r, 0, m.classes.size())};
            case 16:
                return new int[] {pick(r, 0, types), pick(r, 0, 4)};
            case 17:
                return new int[] {pick(r, 0, 6)};
            default:
                return new int[] {pick(r, 0, ops)};
        }
    }

    private static int[] operatorNumbers(Random r, Model m, int ops) {
        int kind = ops < 3 || r.nextInt(4) == 0 ? 0 : pick(r, 1, 8);
        int f = r.nextInt(100);
        if (kind == 0 || kind == 7) {
            f = pickClosed(r, m, r.nextInt(4) != 0);
        } else if (kind == 3 || kind == 6) {
            f = pick(r, 0, m.members.size());
        } else if (kind != 4) {
            f = pickFunction(r, m, kind == 5 ? 2 : 1);
        }
        return new int[] {kind, pick(r, 0, ops), pick(r, 0, ops), f, pick(r, 0, m.members.size()),
            kind == 6 ? pickClass(r, m, 2) : r.nextInt(20)};
    }

    private static final int[] WEIGHTS = {2, 6, 8, 3, 4, 24, 1, 10, 4, 4, 2, 2, 4, 5, 5, 4, 2, 1};

    private static final int[] reasons = new int[9];
    private static final int[] fulls = new int[18];
    private static int tooLong = 0;
    private static String told = null;

    private static boolean isSame(TypeFlow x, Model m, int call, int[] n, StringBuilder run) {
        int want = m.answer(call, n);
        int got = answer(x, call, n);
        run.append(NAMES[call]).append(Arrays.toString(n)).append(" -> ").append(got).append('\n');
        if (want == -3) {
            fulls[call]++;
        }
        if (call == 9 && want >= 0) {
            reasons[want]++;
        }
        if (want != got) {
            told = run + "due is " + want;
        }
        return want == got;
    }

    /** All that can be asked of OPERATORS, and of the TYPES that were made last. */
    private static boolean allSame(TypeFlow x, Model m, StringBuilder run) {
        for (int op = -1; op <= m.operators.size(); op++) {
            for (int ask = 8; ask <= 11; ask++) {
                if (!isSame(x, m, ask, new int[] {op}, run)) {
                    return false;
                }
            }
            if (!isSame(x, m, 12, new int[] {op, 0}, run)
                    || !isSame(x, m, 12, new int[] {op, 1}, run)) {
                return false;
            }
        }
        for (int what = 0; what < 6; what++) {
            if (!isSame(x, m, 17, new int[] {what}, run)) {
                return false;
            }
        }
        int type = m.types.size() - 1;
        for (int last = type; last >= 6 && last > type - 6; last--) {
            for (int what = 0; what < 4; what++) {
                if (!isSame(x, m, 16, new int[] {last, what}, run)) {
                    return false;
                }
            }
        }
        return true;
    }

    private static boolean runIsSame(int seed) {
        Random r = new Random(seed);
        TypeFlow x = new TypeFlow();
        Model m = new Model();
        StringBuilder run = new StringBuilder();
        int calls = FEWEST_CALLS + seed % (MOST_CALLS - FEWEST_CALLS + 1);
        try {
            for (int made = 0; made < calls; made++) {
                int call = pickCall(r, made, WEIGHTS);
                // Some runs leave much room for what is made, some have little from early on.
                if (seed % 3 == 0 && made > 30 && m.types.size() < 70 + seed % 11) {
                    call = r.nextInt(4) == 0 ? call : 1;
                } else if (call == 1 && m.types.size() > 30 + seed % 60 && r.nextInt(8) != 0) {
                    call = 7;
                } else if (call == 5 && m.operators.size() == 24 && r.nextInt(4) != 0) {
                    call = 6;
                }
                if (!isSame(x, m, call, pickNumbers(r, m, call), run)) {
                    return false;
                }
            }
            // Some runs end with OPERATORS that no flow() has told of yet.
            if (r.nextInt(4) != 0 && !isSame(x, m, 7, new int[0], run)) {
                return false;
            }
            return allSame(x, m, run);
        } catch (TooLong grown) {
            tooLong++;
            return true;
        }
    }

    public static void main(String[] args) {
        int wrong = 0;
        for (int seed = 0; seed < RUNS && wrong == 0; seed++) {
            if (!runIsSame(seed)) {
                wrong++;
                System.out.println("run " + seed + ":\n" + told);
            }
        }
        System.out.println("reasons told: " + Arrays.toString(reasons) + ", FULL answered: "
                + Arrays.toString(fulls) + ", runs that grew too long: " + tooLong);
        for (int reason : reasons) {
            wrong += wrong == 0 && reason < 100 ? 1 : 0;
        }
        for (int call : new int[] {0, 1, 2, 3, 5, 13, 14, 15}) {
            wrong += wrong == 0 && fulls[call] < 50 ? 1 : 0;
        }
        if (wrong != 0) {
            System.out.println("answers are not as due, or too few of a kind were asked");
            System.exit(1);
        }
        System.out.println("all answers are as due");
    }
}
