import java.util.NoSuchElementException;

/**
 * A small object language whose methods are chosen by conditions over all arguments. A value is
 * written 8 * class + number + 4 everywhere, so that the order of rows is the order of numbers.
 */
public final class DispatchDesk {
    private static final int MAX_GENERICS = 4;
    private static final int MAX_METHODS = 12;
    private static final int MAX_FUEL = 200;

    private static final int GAP = -1;
    private static final int AMBIGUOUS = -2;

    private final Hierarchy classes = new Hierarchy();
    private final Generic[] generics = new Generic[MAX_GENERICS];
    private int genericCount = 0;
    private final Method[] methods = new Method[MAX_METHODS];
    private int methodCount = 0;
    private final GraphBuilder builder = new GraphBuilder();
    private final Machine machine = new Machine();

    /** How many arguments the witness has; 0 while there is no witness. */
    private int witnessArguments = 0;
    private int witnessFirst = 0;
    private int witnessSecond = 0;

    public DispatchDesk() {
    }

    public int klass(int parent) throws IllegalArgumentException, IllegalStateException {
        if (!classes.has(parent)) {
            throw new IllegalArgumentException("no such parent");
        }
        if (classes.isFull()) {
            throw new IllegalStateException("no room for a class");
        }
        for (int g = 0; g < genericCount; g++) {
            generics[g].outdate();
        }
        witnessArguments = 0;
        return classes.add(parent);
    }

    public int generic(int arguments) throws IllegalArgumentException, IllegalStateException {
        if (arguments < 1 || arguments > 2) {
            throw new IllegalArgumentException("one or two arguments");
        }
        if (genericCount >= MAX_GENERICS) {
            throw new IllegalStateException("no room for a generic");
        }
        generics[genericCount] = new Generic(arguments, classes);
        return genericCount++;
    }

    public int method(int generic) throws IllegalArgumentException, IllegalStateException {
        Generic owner = genericAt(generic);
        if (methodCount >= MAX_METHODS) {
            throw new IllegalStateException("no room for a method");
        }
        Method added = new Method(methodCount, owner);
        methods[methodCount] = added;
        owner.add(added);
        witnessArguments = 0;
        return methodCount++;
    }

    public int atom(int method, int kind, int i, int x, boolean negated)
            throws IllegalArgumentException, IllegalStateException {
        Method changed = methodAt(method);
        if (!isAtom(kind, i, x, changed.owner.arguments)) {
            throw new IllegalArgumentException("no such atom");
        }
        if (changed.atomCount >= Method.MAX_ATOMS) {
            throw new IllegalStateException("no room for an atom");
        }
        changed.owner.outdate();
        witnessArguments = 0;
        return changed.addAtom(Atom.plainest(kind, i, x, negated));
    }

    public int operation(int method, int kind, int n) throws IllegalArgumentException, IllegalStateException {
        Method changed = methodAt(method);
        if (!isOperation(kind, n, changed.owner.arguments)) {
            throw new IllegalArgumentException("no such operation");
        }
        if (changed.operationCount >= Method.MAX_OPERATIONS) {
            throw new IllegalStateException("no room for an operation");
        }
        return changed.addOperation(new Operation(kind, n));
    }

    public boolean beyond(int a, int b) throws IllegalArgumentException {
        Method one = methodAt(a);
        Method other = methodAt(b);
        if (one.owner != other.owner) {
            throw new IllegalArgumentException("methods of different generics");
        }
        one.owner.refresh();
        return (one.beyondSet & other.bit()) != 0;
    }

    public int best(int generic, int a, int b) throws IllegalArgumentException {
        Generic asked = genericAt(generic);
        if (!isRow(asked, a, b)) {
            throw new IllegalArgumentException("no such value");
        }
        asked.refresh();
        return asked.choose(asked.facts.ofRow(a, asked.secondOrNone(b)));
    }

    public int check(int generic) throws IllegalArgumentException {
        Generic checked = genericAt(generic);
        checked.refresh();
        int row = checked.firstFault();
        if (row < 0) {
            witnessArguments = 0;
            return 0;
        }
        witnessArguments = checked.arguments;
        witnessFirst = Generic.firstOfRow(row);
        witnessSecond = Generic.secondOfRow(row);
        return checked.choose(checked.facts.ofRow(witnessFirst, witnessSecond)) == GAP ? 1 : 2;
    }

    public int witness(int i) throws NoSuchElementException {
        if (i < 0 || i >= witnessArguments) {
            throw new NoSuchElementException("no such witness");
        }
        return i == 0 ? witnessFirst : witnessSecond;
    }

    public int compile(int generic) throws IllegalArgumentException, IllegalStateException {
        Generic compiled = genericAt(generic);
        compiled.refresh();
        if (!builder.build(compiled)) {
            throw new IllegalStateException("the graph is too large");
        }
        return compiled.graph.size();
    }

    public int node(int generic, int k, int what)
            throws IllegalArgumentException, IllegalStateException, NoSuchElementException {
        Generic asked = compiledAt(generic, what);
        if (k < 0 || k >= asked.graph.size()) {
            throw new NoSuchElementException("no such node");
        }
        return asked.graph.part(k, what);
    }

    public int test(int generic, int k, int what)
            throws IllegalArgumentException, IllegalStateException, NoSuchElementException {
        Generic asked = compiledAt(generic, what);
        if (k < 0 || k >= asked.facts.size()) {
            throw new NoSuchElementException("no such test");
        }
        return asked.facts.part(k, what);
    }

    public int run(int generic, int a, int b, int fuel) throws IllegalArgumentException {
        Generic called = genericAt(generic);
        if (!isRow(called, a, b)) {
            throw new IllegalArgumentException("no such value");
        }
        if (fuel < 0 || fuel > MAX_FUEL) {
            throw new IllegalArgumentException("no such fuel");
        }
        // A body may call any generic, so all of them must be ready.
        for (int g = 0; g < genericCount; g++) {
            generics[g].refresh();
        }
        machine.load(generics, methods, fuel);
        return machine.call(called, a, called.secondOrNone(b), 0);
    }

    public int left() {
        return machine.fuel;
    }

    public int tests() {
        return machine.testCount;
    }

    private Generic genericAt(int number) {
        if (number < 0 || number >= genericCount) {
            throw new IllegalArgumentException("no such generic");
        }
        return generics[number];
    }

    private Method methodAt(int number) {
        if (number < 0 || number >= methodCount) {
            throw new IllegalArgumentException("no such method");
        }
        return methods[number];
    }

    private Generic compiledAt(int number, int what) {
        Generic asked = genericAt(number);
        if (what < 0 || what > 2) {
            throw new IllegalArgumentException("no such what");
        }
        if (asked.graph.isEmpty()) {
            throw new IllegalStateException("not compiled");
        }
        return asked;
    }

    private boolean isRow(Generic generic, int a, int b) {
        return classes.hasValue(a) && (generic.arguments == 1 || classes.hasValue(b));
    }

    private boolean isAtom(int kind, int i, int x, int arguments) {
        boolean hasArgument = i >= 0 && i < arguments;
        switch (kind) {
            case Atom.CLASS_IS:
                return hasArgument && classes.has(x);
            case Atom.BELOW:
                return hasArgument && x >= Value.LOWEST && x <= Value.HIGHEST + 1;
            case Atom.EQUAL:
                return hasArgument && Value.isNumber(x);
            case Atom.EVEN:
                return hasArgument;
            case Atom.FIRST_BELOW_SECOND:
            case Atom.SAME_CLASS:
                return arguments == 2;
            default:
                return false;
        }
    }

    private boolean isOperation(int kind, int n, int arguments) {
        switch (kind) {
            case Operation.NUMBER:
                return Value.isNumber(n);
            case Operation.ARGUMENT:
                return n >= 0 && n < arguments;
            case Operation.CLASS:
                return classes.has(n);
            case Operation.CALL:
                return n >= 0 && n < genericCount;
            case Operation.ADD:
            case Operation.MULTIPLY:
            case Operation.NEXT:
                return true;
            default:
                return false;
        }
    }

    /** What a value's one number says of its class and its number. */
    private static final class Value {
        static final int LOWEST = -4;
        static final int HIGHEST = 3;

        static boolean isNumber(int n) {
            return n >= LOWEST && n <= HIGHEST;
        }

        static int of(int klass, int number) {
            return klass << 3 | (number - LOWEST & 7);
        }

        static int classOf(int value) {
            return value >> 3;
        }

        static int numberOf(int value) {
            return (value & 7) + LOWEST;
        }
    }

    /** The classes; bit d of a class's lineage is set when the class is d. */
    private static final class Hierarchy {
        static final int MAX_CLASSES = 8;
        static final int MAX_VALUES = 8 * MAX_CLASSES;

        private final int[] lineages = new int[MAX_CLASSES];
        private int count = 1;

        Hierarchy() {
            lineages[0] = 1;
        }

        boolean has(int c) {
            return c >= 0 && c < count;
        }

        boolean isFull() {
            return count >= MAX_CLASSES;
        }

        int add(int parent) {
            lineages[count] = lineages[parent] | 1 << count;
            return count++;
        }

        boolean is(int c, int d) {
            return (lineages[c] >> d & 1) != 0;
        }

        int valueCount() {
            return 8 * count;
        }

        boolean hasValue(int value) {
            return value >= 0 && value < valueCount();
        }
    }

    /** One part of a condition. */
    private record Atom(int kind, int i, int x, boolean negated) {
        static final int CLASS_IS = 0;
        static final int BELOW = 1;
        static final int EQUAL = 2;
        static final int EVEN = 3;
        static final int FIRST_BELOW_SECOND = 4;
        static final int SAME_CLASS = 5;

        /** What is of no matter becomes 0, so that atoms that are the same look the same. */
        static Atom plainest(int kind, int i, int x, boolean negated) {
            boolean ofOneArgument = kind < FIRST_BELOW_SECOND;
            return new Atom(kind, ofOneArgument ? i : 0, kind < EVEN ? x : 0, negated);
        }

        boolean asksTheSame(Atom other) {
            return kind == other.kind && i == other.i && x == other.x;
        }

        /** For the kinds that look at one argument alone. */
        boolean holdsFor(int value, Hierarchy classes) {
            int number = Value.numberOf(value);
            switch (kind) {
                case CLASS_IS:
                    return classes.is(Value.classOf(value), x);
                case BELOW:
                    return number < x;
                case EQUAL:
                    return number == x;
                default:
                    return (number & 1) == 0;
            }
        }
    }

    /** One step of a body. */
    private record Operation(int kind, int n) {
        static final int NUMBER = 0;
        static final int ARGUMENT = 1;
        static final int ADD = 2;
        static final int MULTIPLY = 3;
        static final int CLASS = 4;
        static final int CALL = 5;
        static final int NEXT = 6;
    }

    /** A method; sets of methods are ints with a bit for each. */
    private static final class Method {
        static final int MAX_ATOMS = 4;
        static final int MAX_OPERATIONS = 8;

        final int number;
        final Generic owner;
        final Atom[] atoms = new Atom[MAX_ATOMS];
        int atomCount = 0;
        final Operation[] body = new Operation[MAX_OPERATIONS];
        int operationCount = 0;

        /** The tests that must hold and those that must not. */
        private long wanted = 0;
        private long unwanted = 0;
        /** The methods that hold whenever this one does. */
        int impliedSet = 0;
        int beyondSet = 0;

        Method(int number, Generic owner) {
            this.number = number;
            this.owner = owner;
        }

        int bit() {
            return 1 << number;
        }

        int addAtom(Atom atom) {
            atoms[atomCount] = atom;
            atomCount++;
            return atomCount;
        }

        int addOperation(Operation operation) {
            body[operationCount] = operation;
            operationCount++;
            return operationCount;
        }

        void learnCondition(Facts facts) {
            wanted = 0;
            unwanted = 0;
            for (int k = 0; k < atomCount; k++) {
                long fact = facts.learn(atoms[k]);
                if (atoms[k].negated()) {
                    unwanted |= fact;
                } else {
                    wanted |= fact;
                }
            }
        }

        boolean holds(long facts) {
            return (facts & wanted) == wanted && (facts & unwanted) == 0;
        }
    }

    /** The tests of a generic; the facts of a row are a long with bit k set where test k holds. */
    private static final class Facts {
        static final int MAX_TESTS = MAX_METHODS * Method.MAX_ATOMS;

        private final Hierarchy classes;
        private final Atom[] tests = new Atom[MAX_TESTS];
        private int count = 0;
        private final long[] firstFacts = new long[Hierarchy.MAX_VALUES];
        private final long[] secondFacts = new long[Hierarchy.MAX_VALUES];
        private long belowFact = 0;
        private long sameClassFact = 0;

        Facts(Hierarchy classes) {
            this.classes = classes;
        }

        int size() {
            return count;
        }

        int part(int k, int what) {
            Atom asked = tests[k];
            return what == 0 ? asked.kind() : what == 1 ? asked.i() : asked.x();
        }

        void forget() {
            count = 0;
            belowFact = 0;
            sameClassFact = 0;
            for (int value = 0; value < Hierarchy.MAX_VALUES; value++) {
                firstFacts[value] = 0;
                secondFacts[value] = 0;
            }
        }

        /** The bit of an atom's test, which becomes a test if it is none. */
        long learn(Atom atom) {
            for (int k = 0; k < count; k++) {
                if (tests[k].asksTheSame(atom)) {
                    return 1L << k;
                }
            }
            long fact = 1L << count;
            tests[count] = atom;
            count++;
            note(atom, fact);
            return fact;
        }

        private void note(Atom atom, long fact) {
            if (atom.kind() == Atom.FIRST_BELOW_SECOND) {
                belowFact = fact;
                return;
            }
            if (atom.kind() == Atom.SAME_CLASS) {
                sameClassFact = fact;
                return;
            }
            long[] known = atom.i() == 0 ? firstFacts : secondFacts;
            for (int value = 0; value < classes.valueCount(); value++) {
                if (atom.holdsFor(value, classes)) {
                    known[value] |= fact;
                }
            }
        }

        long ofRow(int a, int b) {
            long facts = firstFacts[a] | secondFacts[b];
            if (Value.numberOf(a) < Value.numberOf(b)) {
                facts |= belowFact;
            }
            if (Value.classOf(a) == Value.classOf(b)) {
                facts |= sameClassFact;
            }
            return facts;
        }
    }

    /** A generic; a row of one argument has 0 for the second. */
    private static final class Generic {
        final int arguments;
        final Facts facts;
        final Graph graph = new Graph();
        private final Hierarchy classes;
        private final Method[] own = new Method[MAX_METHODS];
        private int ownCount = 0;
        private int ownSet = 0;
        private boolean isFresh = false;

        /** Rows side by side mostly have the same facts, so the latest choice is kept. */
        private boolean hasChosen = false;
        private long chosenFacts = 0;
        private int chosen = 0;

        Generic(int arguments, Hierarchy classes) {
            this.arguments = arguments;
            this.classes = classes;
            this.facts = new Facts(classes);
        }

        static int firstOfRow(int row) {
            return row / Hierarchy.MAX_VALUES;
        }

        static int secondOfRow(int row) {
            return row % Hierarchy.MAX_VALUES;
        }

        int firstCount() {
            return classes.valueCount();
        }

        int secondCount() {
            return arguments == 2 ? classes.valueCount() : 1;
        }

        int secondOrNone(int b) {
            return arguments == 2 ? b : 0;
        }

        void add(Method method) {
            own[ownCount] = method;
            ownCount++;
            ownSet |= method.bit();
            outdate();
        }

        /** To be called when the conditions or the classes change. */
        void outdate() {
            isFresh = false;
            graph.clear();
        }

        void refresh() {
            if (isFresh) {
                return;
            }
            facts.forget();
            for (int k = 0; k < ownCount; k++) {
                own[k].learnCondition(facts);
            }
            findImplied();
            findBeyond();
            hasChosen = false;
            isFresh = true;
        }

        private void findImplied() {
            for (int k = 0; k < ownCount; k++) {
                own[k].impliedSet = ownSet;
            }
            long noted = -1;
            for (int a = 0; a < firstCount(); a++) {
                for (int b = 0; b < secondCount(); b++) {
                    long row = facts.ofRow(a, b);
                    if (row != noted) {
                        noteTogether(applicable(row));
                        noted = row;
                    }
                }
            }
        }

        private void noteTogether(int set) {
            for (int k = 0; k < ownCount; k++) {
                if ((set & own[k].bit()) != 0) {
                    own[k].impliedSet &= set;
                }
            }
        }

        private void findBeyond() {
            for (int k = 0; k < ownCount; k++) {
                Method one = own[k];
                one.beyondSet = 0;
                for (int m = 0; m < ownCount; m++) {
                    Method other = own[m];
                    if ((one.impliedSet & other.bit()) != 0 && (other.impliedSet & one.bit()) == 0) {
                        one.beyondSet |= other.bit();
                    }
                }
            }
        }

        private int applicable(long row) {
            int set = 0;
            for (int k = 0; k < ownCount; k++) {
                if (own[k].holds(row)) {
                    set |= own[k].bit();
                }
            }
            return set;
        }

        /** The one of a set that is beyond all others in it. */
        private int pick(int set) {
            if (set == 0) {
                return GAP;
            }
            for (int k = 0; k < ownCount; k++) {
                Method one = own[k];
                int rest = set & ~one.bit();
                if (rest != set && (rest & ~one.beyondSet) == 0) {
                    return one.number;
                }
            }
            return AMBIGUOUS;
        }

        int choose(long row) {
            if (!hasChosen || chosenFacts != row) {
                chosen = pick(applicable(row));
                chosenFacts = row;
                hasChosen = true;
            }
            return chosen;
        }

        int chooseBehind(Method method, long row) {
            return pick(applicable(row) & method.beyondSet);
        }

        /** The first row without a best method, or -1. */
        int firstFault() {
            for (int a = 0; a < firstCount(); a++) {
                for (int b = 0; b < secondCount(); b++) {
                    if (choose(facts.ofRow(a, b)) < 0) {
                        return a * Hierarchy.MAX_VALUES + b;
                    }
                }
            }
            return -1;
        }
    }

    /** Nodes of tests and leaves; without nodes it stands for no graph. */
    private static final class Graph {
        static final int MAX_NODES = 80;
        static final int NONE = -1;

        /** A leaf has no test, its method for passing, and no node for failing. */
        private final int[] tests = new int[MAX_NODES];
        private final int[] passing = new int[MAX_NODES];
        private final int[] failing = new int[MAX_NODES];
        private int count = 0;

        void clear() {
            count = 0;
        }

        boolean isEmpty() {
            return count == 0;
        }

        int size() {
            return count;
        }

        int part(int k, int what) {
            return what == 0 ? tests[k] : what == 1 ? passing[k] : failing[k];
        }

        int leafFor(int method) {
            return nodeFor(NONE, method, NONE);
        }

        /** The node that is such, which comes to be if there is none; NONE if it has no room. */
        int nodeFor(int test, int pass, int fail) {
            for (int k = 0; k < count; k++) {
                if (tests[k] == test && passing[k] == pass && failing[k] == fail) {
                    return k;
                }
            }
            if (count >= MAX_NODES) {
                return NONE;
            }
            tests[count] = test;
            passing[count] = pass;
            failing[count] = fail;
            return count++;
        }

        int root() {
            return count - 1;
        }

        boolean isLeaf(int k) {
            return tests[k] == NONE;
        }

        int methodAt(int leaf) {
            return passing[leaf];
        }

        int follow(int k, long row) {
            return (row >> tests[k] & 1) != 0 ? passing[k] : failing[k];
        }
    }

    /** Makes graphs: each row is a long of its facts with its best method above them. */
    private static final class GraphBuilder {
        private static final int CHOICE_SHIFT = Facts.MAX_TESTS;
        private static final int LOWEST_CHOICE = AMBIGUOUS;

        /**
         * Each test on a path takes a class or a number away from one argument (at most 7 times
         * for each of the four), or is one of the two that look at both; then comes a leaf.
         */
        private static final int MAX_DEPTH = 4 * 7 + 2;

        private final long[] rows = new long[Hierarchy.MAX_VALUES * Hierarchy.MAX_VALUES];

        /** Whether the graph was not too large. */
        boolean build(Generic generic) {
            Graph graph = generic.graph;
            graph.clear();
            int root = treeFor(graph, 0, gather(generic), 0);
            if (root == Graph.NONE) {
                graph.clear();
            }
            return root != Graph.NONE;
        }

        private int gather(Generic generic) {
            int count = 0;
            for (int a = 0; a < generic.firstCount(); a++) {
                for (int b = 0; b < generic.secondCount(); b++) {
                    long facts = generic.facts.ofRow(a, b);
                    long row = facts | (long) (generic.choose(facts) - LOWEST_CHOICE) << CHOICE_SHIFT;
                    if (count == 0 || rows[count - 1] != row) {
                        rows[count] = row;
                        count++;
                    }
                }
            }
            return count;
        }

        /**
         * The tree for the rows from one place up to another. The lowest test that splits them
         * is behind all that were split by above, since by those they are alike.
         */
        private int treeFor(Graph graph, int from, int to, int depth) {
            if (depth > MAX_DEPTH) {
                return Graph.NONE;
            }
            long differing = differing(from, to);
            if (differing >>> CHOICE_SHIFT == 0) {
                return graph.leafFor((int) (rows[from] >>> CHOICE_SHIFT) + LOWEST_CHOICE);
            }
            int test = Long.numberOfTrailingZeros(differing);
            int middle = bringForward(from, to, 1L << test);
            int pass = treeFor(graph, from, middle, depth + 1);
            if (pass == Graph.NONE) {
                return Graph.NONE;
            }
            int fail = treeFor(graph, middle, to, depth + 1);
            if (fail == Graph.NONE) {
                return Graph.NONE;
            }
            return graph.nodeFor(test, pass, fail);
        }

        private long differing(int from, int to) {
            long some = 0;
            long all = -1;
            for (int k = from; k < to; k++) {
                some |= rows[k];
                all &= rows[k];
            }
            return some & ~all;
        }

        /** Puts the rows with a fact before those without: where the latter begin. */
        private int bringForward(int from, int to, long fact) {
            int middle = from;
            for (int k = from; k < to; k++) {
                long row = rows[k];
                if ((row & fact) != 0) {
                    rows[k] = rows[middle];
                    rows[middle] = row;
                    middle++;
                }
            }
            return middle;
        }
    }

    /** A call that stands open: its method, its row and its stack. */
    private static final class Frame {
        private static final int MAX_HEIGHT = 6;

        Method method = null;
        int first = 0;
        int second = 0;
        private final int[] stack = new int[MAX_HEIGHT];
        private int height = 0;

        void open(Method method, int first, int second) {
            this.method = method;
            this.first = first;
            this.second = second;
            height = 0;
        }

        boolean has(int values) {
            return height >= values;
        }

        /** The value, or what ends the run. */
        int push(int value) {
            if (height >= MAX_HEIGHT) {
                return Machine.BAD_STACK;
            }
            stack[height] = value;
            height++;
            return value;
        }

        /** To be called behind has(1). */
        int pop() {
            height--;
            return stack[height];
        }

        int result() {
            return height > 0 ? stack[height - 1] : first;
        }
    }

    /** Runs bodies. What is below 0 ends the run, and goes up through all calls. */
    private static final class Machine {
        static final int NO_FUEL = -3;
        static final int BAD_STACK = -4;
        static final int TOO_DEEP = -5;
        private static final int MAX_CALLS = 8;

        int fuel = 0;
        int testCount = 0;
        private Generic[] generics = null;
        private Method[] methods = null;
        private final Frame[] frames = new Frame[MAX_CALLS];

        Machine() {
            for (int k = 0; k < MAX_CALLS; k++) {
                frames[k] = new Frame();
            }
        }

        void load(Generic[] generics, Method[] methods, int fuel) {
            this.generics = generics;
            this.methods = methods;
            this.fuel = fuel;
            testCount = 0;
        }

        int call(Generic generic, int a, int b, int within) {
            int entered = enter(within);
            if (entered < 0) {
                return entered;
            }
            long row = generic.facts.ofRow(a, b);
            int chosen = generic.graph.isEmpty() ? generic.choose(row) : walk(generic.graph, row);
            return chosen < 0 ? chosen : perform(methods[chosen], a, b, within);
        }

        private int callNext(Frame frame, int within) {
            int entered = enter(within);
            if (entered < 0) {
                return entered;
            }
            Generic generic = frame.method.owner;
            long row = generic.facts.ofRow(frame.first, frame.second);
            int chosen = generic.chooseBehind(frame.method, row);
            return chosen < 0 ? chosen : perform(methods[chosen], frame.first, frame.second, within);
        }

        private int enter(int within) {
            return within >= MAX_CALLS ? TOO_DEEP : spend();
        }

        private int spend() {
            if (fuel <= 0) {
                return NO_FUEL;
            }
            fuel--;
            return fuel;
        }

        private int walk(Graph graph, long row) {
            int k = graph.root();
            for (int steps = 0; steps < Graph.MAX_NODES && !graph.isLeaf(k); steps++) {
                testCount++;
                k = graph.follow(k, row);
            }
            return graph.methodAt(k);
        }

        private int perform(Method method, int a, int b, int within) {
            Frame frame = frames[within];
            frame.open(method, a, b);
            for (int k = 0; k < method.operationCount; k++) {
                int spent = spend();
                int done = spent < 0 ? spent : step(method.body[k], frame, within);
                if (done < 0) {
                    return done;
                }
            }
            return frame.result();
        }

        private int step(Operation operation, Frame frame, int within) {
            switch (operation.kind()) {
                case Operation.NUMBER:
                    return frame.push(Value.of(0, operation.n()));
                case Operation.ARGUMENT:
                    return frame.push(operation.n() == 0 ? frame.first : frame.second);
                case Operation.ADD:
                case Operation.MULTIPLY:
                    return combine(frame, operation.kind() == Operation.ADD);
                case Operation.CLASS:
                    return recast(frame, operation.n());
                case Operation.CALL:
                    return callOnTop(generics[operation.n()], frame, within);
                default:
                    return pushUnlessEnded(frame, callNext(frame, within + 1));
            }
        }

        private static int combine(Frame frame, boolean adds) {
            if (!frame.has(2)) {
                return BAD_STACK;
            }
            int upper = Value.numberOf(frame.pop());
            int lowerValue = frame.pop();
            int lower = Value.numberOf(lowerValue);
            return frame.push(Value.of(Value.classOf(lowerValue), adds ? lower + upper : lower * upper));
        }

        private static int recast(Frame frame, int klass) {
            if (!frame.has(1)) {
                return BAD_STACK;
            }
            return frame.push(Value.of(klass, Value.numberOf(frame.pop())));
        }

        private int callOnTop(Generic generic, Frame frame, int within) {
            if (!frame.has(generic.arguments)) {
                return BAD_STACK;
            }
            int second = generic.arguments == 2 ? frame.pop() : 0;
            int first = frame.pop();
            return pushUnlessEnded(frame, call(generic, first, second, within + 1));
        }

        private static int pushUnlessEnded(Frame frame, int result) {
            return result < 0 ? result : frame.push(result);
        }
    }
}
