import java.util.ArrayList;
import java.util.LinkedHashMap;
import java.util.List;
import java.util.Map;
import java.util.NoSuchElementException;

/**
 * The document written a second time, as near to its words as can be and without care for speed:
 * rows are looked at one by one, trees are texts, and what ends a run is thrown.
 */
final class Model {
    private static final class Atom {
        int kind;
        int i;
        int x;
        boolean negated;

        String words() {
            return kind + "," + i + "," + x;
        }
    }

    private static final class Method {
        int generic;
        final List<Atom> atoms = new ArrayList<>();
        final List<int[]> body = new ArrayList<>();
    }

    private static final class Ended extends RuntimeException {
        private static final long serialVersionUID = 1;
        final int why;

        Ended(int why) {
            this.why = why;
        }
    }

    private final List<Integer> parents = new ArrayList<>(List.of(-1));
    private final List<Integer> generics = new ArrayList<>();
    private final List<Method> methods = new ArrayList<>();
    private final Map<Integer, Map<String, Integer>> graphs = new LinkedHashMap<>();
    private final Map<Integer, List<Atom>> graphTests = new LinkedHashMap<>();
    private final Map<Integer, Boolean> beyondKnown = new LinkedHashMap<>();
    private int[] shown = null;
    private int fuel = 0;
    private int passed = 0;

    private static void argument(boolean good) {
        if (!good) {
            throw new IllegalArgumentException();
        }
    }

    private static void state(boolean good) {
        if (!good) {
            throw new IllegalStateException();
        }
    }

    private static void element(boolean good) {
        if (!good) {
            throw new NoSuchElementException();
        }
    }

    private static boolean among(int n, List<?> list) {
        return n >= 0 && n < list.size();
    }

    int klass(int parent) {
        argument(among(parent, parents));
        state(parents.size() < 8);
        parents.add(parent);
        graphs.clear();
        shown = null;
        beyondKnown.clear();
        return parents.size() - 1;
    }

    int generic(int arguments) {
        argument(arguments == 1 || arguments == 2);
        state(generics.size() < 4);
        generics.add(arguments);
        return generics.size() - 1;
    }

    int method(int generic) {
        argument(among(generic, generics));
        state(methods.size() < 12);
        Method m = new Method();
        m.generic = generic;
        methods.add(m);
        graphs.remove(generic);
        shown = null;
        beyondKnown.clear();
        return methods.size() - 1;
    }

    int atom(int method, int kind, int i, int x, boolean negated) {
        argument(among(method, methods));
        Method m = methods.get(method);
        int arguments = generics.get(m.generic);
        argument(kind >= 0 && kind <= 5);
        argument(kind > 3 || (i >= 0 && i < arguments));
        argument(kind != 0 || among(x, parents));
        argument(kind != 1 || (x >= -4 && x <= 4));
        argument(kind != 2 || (x >= -4 && x <= 3));
        argument(kind < 4 || arguments == 2);
        state(m.atoms.size() < 4);
        Atom atom = new Atom();
        atom.kind = kind;
        atom.i = kind >= 4 ? 0 : i;
        atom.x = kind >= 3 ? 0 : x;
        atom.negated = negated;
        m.atoms.add(atom);
        graphs.remove(m.generic);
        shown = null;
        beyondKnown.clear();
        return m.atoms.size();
    }

    int operation(int method, int kind, int n) {
        argument(among(method, methods));
        Method m = methods.get(method);
        argument(kind >= 0 && kind <= 6);
        argument(kind != 0 || (n >= -4 && n <= 3));
        argument(kind != 1 || (n >= 0 && n < generics.get(m.generic)));
        argument(kind != 4 || among(n, parents));
        argument(kind != 5 || among(n, generics));
        state(m.body.size() < 8);
        m.body.add(new int[] {kind, n});
        return m.body.size();
    }

    private boolean isA(int c, int d) {
        return c == d || (c != 0 && isA(parents.get(c), d));
    }

    private boolean passes(Atom atom, int[] row) {
        int value = row[atom.i];
        int number = value % 8 - 4;
        switch (atom.kind) {
            case 0: return isA(value / 8, atom.x);
            case 1: return number < atom.x;
            case 2: return number == atom.x;
            case 3: return number % 2 == 0;
            case 4: return row[0] % 8 < row[1] % 8;
            default: return row[0] / 8 == row[1] / 8;
        }
    }

    private boolean applicable(int method, int[] row) {
        for (Atom atom : methods.get(method).atoms) {
            if (passes(atom, row) == atom.negated) {
                return false;
            }
        }
        return true;
    }

    private List<int[]> rows(int generic) {
        List<int[]> all = new ArrayList<>();
        int values = 8 * parents.size();
        for (int a = 0; a < values; a++) {
            if (generics.get(generic) == 1) {
                all.add(new int[] {a});
                continue;
            }
            for (int b = 0; b < values; b++) {
                all.add(new int[] {a, b});
            }
        }
        return all;
    }

    boolean beyond(int a, int b) {
        argument(among(a, methods) && among(b, methods));
        argument(methods.get(a).generic == methods.get(b).generic);
        return beyondKnown.computeIfAbsent(a * 12 + b, k -> implies(a, b) && !implies(b, a));
    }

    private boolean implies(int a, int b) {
        for (int[] row : rows(methods.get(a).generic)) {
            if (applicable(a, row) && !applicable(b, row)) {
                return false;
            }
        }
        return true;
    }

    private int bestOf(List<Integer> some) {
        if (some.isEmpty()) {
            return -1;
        }
        for (int m : some) {
            boolean best = true;
            for (int other : some) {
                best &= other == m || beyond(m, other);
            }
            if (best) {
                return m;
            }
        }
        return -2;
    }

    private List<Integer> allApplicable(int generic, int[] row) {
        List<Integer> some = new ArrayList<>();
        for (int m = 0; m < methods.size(); m++) {
            if (methods.get(m).generic == generic && applicable(m, row)) {
                some.add(m);
            }
        }
        return some;
    }

    private int bestAt(int generic, int[] row) {
        return bestOf(allApplicable(generic, row));
    }

    private int[] row(int generic, int a, int b) {
        argument(among(generic, generics));
        int values = 8 * parents.size();
        argument(a >= 0 && a < values);
        if (generics.get(generic) == 1) {
            return new int[] {a};
        }
        argument(b >= 0 && b < values);
        return new int[] {a, b};
    }

    int best(int generic, int a, int b) {
        int[] row = row(generic, a, b);
        return bestAt(generic, row);
    }

    int check(int generic) {
        argument(among(generic, generics));
        shown = null;
        for (int[] row : rows(generic)) {
            int best = bestAt(generic, row);
            if (best < 0) {
                shown = row;
                return -best;
            }
        }
        return 0;
    }

    int witness(int i) {
        element(shown != null && i >= 0 && i < shown.length);
        return shown[i];
    }

    /** How many nodes the graph has, too large or not. */
    int nodes(int generic) {
        return graphOf(generic).size();
    }

    private List<Atom> testsOf(int generic) {
        Map<String, Atom> once = new LinkedHashMap<>();
        for (Method m : methods) {
            if (m.generic == generic) {
                for (Atom atom : m.atoms) {
                    once.putIfAbsent(atom.words(), atom);
                }
            }
        }
        return new ArrayList<>(once.values());
    }

    /** The nodes as texts ("test pass fail"), in the order in which they come to be. */
    private Map<String, Integer> graphOf(int generic) {
        Map<String, Integer> graph = new LinkedHashMap<>();
        tree(generic, rows(generic), testsOf(generic), 0, graph);
        return graph;
    }

    private int tree(int generic, List<int[]> rows, List<Atom> tests, int k, Map<String, Integer> graph) {
        int best = bestAt(generic, rows.get(0));
        boolean same = true;
        for (int[] row : rows) {
            same = same && bestAt(generic, row) == best;
        }
        if (same) {
            return number("-1 " + best + " -1", graph);
        }
        for (int t = k; t < tests.size(); t++) {
            List<int[]> pass = new ArrayList<>();
            List<int[]> fail = new ArrayList<>();
            for (int[] row : rows) {
                (passes(tests.get(t), row) ? pass : fail).add(row);
            }
            if (!pass.isEmpty() && !fail.isEmpty()) {
                int passing = tree(generic, pass, tests, t + 1, graph);
                int failing = tree(generic, fail, tests, t + 1, graph);
                return number(t + " " + passing + " " + failing, graph);
            }
        }
        throw new AssertionError("rows that no test tells apart have different methods");
    }

    private static int number(String node, Map<String, Integer> graph) {
        graph.putIfAbsent(node, graph.size());
        return graph.get(node);
    }

    int compile(int generic) {
        argument(among(generic, generics));
        graphs.remove(generic);
        Map<String, Integer> graph = graphOf(generic);
        state(graph.size() <= 80);
        graphs.put(generic, graph);
        graphTests.put(generic, testsOf(generic));
        return graph.size();
    }

    int node(int generic, int k, int what) {
        argument(among(generic, generics));
        argument(what >= 0 && what <= 2);
        state(graphs.containsKey(generic));
        List<String> nodes = new ArrayList<>(graphs.get(generic).keySet());
        element(among(k, nodes));
        return Integer.parseInt(nodes.get(k).split(" ")[what]);
    }

    int test(int generic, int k, int what) {
        argument(among(generic, generics));
        argument(what >= 0 && what <= 2);
        state(graphs.containsKey(generic));
        List<Atom> tests = graphTests.get(generic);
        element(among(k, tests));
        return Integer.parseInt(tests.get(k).words().split(",")[what]);
    }

    int run(int generic, int a, int b, int fuel) {
        int[] row = row(generic, a, b);
        argument(fuel >= 0 && fuel <= 200);
        this.fuel = fuel;
        passed = 0;
        try {
            return call(generic, row, 0);
        } catch (Ended e) {
            return e.why;
        }
    }

    private void spend() {
        if (fuel == 0) {
            throw new Ended(-3);
        }
        fuel--;
    }

    private void begin(int within) {
        if (within == 8) {
            throw new Ended(-5);
        }
        spend();
    }

    private int call(int generic, int[] row, int within) {
        begin(within);
        int chosen = graphs.containsKey(generic) ? walk(generic, row) : bestAt(generic, row);
        return body(chosen, row, within);
    }

    private int next(int method, int[] row, int within) {
        begin(within);
        List<Integer> some = allApplicable(methods.get(method).generic, row);
        some.removeIf(m -> !beyond(method, m));
        return body(bestOf(some), row, within);
    }

    private int walk(int generic, int[] row) {
        int k = graphs.get(generic).size() - 1;
        while (node(generic, k, 0) >= 0) {
            Atom test = graphTests.get(generic).get(node(generic, k, 0));
            passed++;
            k = node(generic, k, passes(test, row) ? 1 : 2);
        }
        return node(generic, k, 1);
    }

    private int body(int method, int[] row, int within) {
        if (method < 0) {
            throw new Ended(method);
        }
        List<Integer> stack = new ArrayList<>();
        for (int[] operation : methods.get(method).body) {
            spend();
            operate(operation[0], operation[1], method, row, stack, within);
            if (stack.size() > 6) {
                throw new Ended(-4);
            }
        }
        return stack.isEmpty() ? row[0] : stack.get(stack.size() - 1);
    }

    private void operate(int kind, int n, int method, int[] row, List<Integer> stack, int within) {
        int[] needs = {0, 0, 2, 2, 1, kind == 5 ? generics.get(n) : 0, 0};
        if (stack.size() < needs[kind]) {
            throw new Ended(-4);
        }
        int[] taken = new int[needs[kind]];
        for (int k = taken.length - 1; k >= 0; k--) {
            taken[k] = stack.remove(stack.size() - 1);
        }
        switch (kind) {
            case 0: stack.add(n + 4); break;
            case 1: stack.add(row[n]); break;
            case 2: stack.add(value(taken[0] / 8, taken[0] % 8 - 4 + taken[1] % 8 - 4)); break;
            case 3: stack.add(value(taken[0] / 8, (taken[0] % 8 - 4) * (taken[1] % 8 - 4))); break;
            case 4: stack.add(value(n, taken[0] % 8 - 4)); break;
            case 5: stack.add(call(n, taken, within + 1)); break;
            default: stack.add(next(method, row, within + 1)); break;
        }
    }

    private static int value(int klass, int number) {
        return 8 * klass + Math.floorMod(number + 4, 8);
    }

    int left() {
        return fuel;
    }

    int tests() {
        return passed;
    }
}
