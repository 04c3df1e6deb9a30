/**
 * The sentences of 'THE GRAPH' and of promises 11 to 13 that name a boundary or a refused call, each
 * with a test of its own.
 */
public final class EdgesOfGraphsTest {
    /** A generic of two arguments over two classes; found by trying many and counting with the model. */
    private static final String[] OF_80_NODES = {
        "is 0 2, class 0 1", "class 1 1, less", "below 1 -1, not same", "below 0 3, below 0 0",
        "below 1 0, not same", "even 1, below 1 -1", "not is 0 0, not class 1 1", "even 0, even 1"};
    private static final String[] OF_81_NODES = {
        "same, is 0 -3", "not same, below 1 2", "not even 0, is 1 1", "not class 0 1, below 1 0",
        "below 0 0, not even 1", "even 0, not below 1 3", "not even 0, is 1 -2", "not class 0 1, not same"};

    /** These two over eight classes; all but the last method of each never hold. */
    private static final String[] OF_30_TESTS_ON_ONE_WAY = {
        "same, not same, less, class 0 6", "class 1 7, not class 1 7, class 0 1, class 1 1",
        "class 0 2, not class 0 2, class 1 2, class 0 3", "class 1 3, not class 1 3, class 0 4, class 1 4",
        "class 0 5, not class 0 5, class 1 5, below 0 -3", "below 0 -2, not below 0 -2, below 0 -1, below 0 0",
        "below 0 1, not below 0 1, below 0 2, below 1 3", "below 1 2, not below 1 2, below 1 1, below 1 0",
        "below 1 -1, not below 1 -1, below 1 -2", "class 0 7, class 1 6, not below 0 3, below 1 -3"};
    private static final String[] OF_48_TESTS = {
        "class 0 1, class 0 2, below 0 -3, below 0 -2", "class 1 1, class 1 2, below 1 -3, below 1 -2",
        "class 0 3, class 0 4, below 0 -1, below 0 0", "class 1 3, class 1 4, below 1 -1, below 1 0",
        "class 0 5, class 0 6, below 0 1, below 0 2", "class 1 5, class 1 6, below 1 1, below 1 2",
        "is 0 -4, is 0 -3, even 0, below 0 4", "is 1 -4, is 1 -3, even 1, below 1 4",
        "is 0 -2, is 0 -1, below 0 3, below 0 -4", "is 1 -2, is 1 -1, below 1 3, below 1 -4",
        "is 0 0, is 0 1, is 1 0, is 1 1", "class 0 7, is 0 3, is 1 3, same"};

    public static void main(String[] args) {
        testsByMethodsThenInOrder();
        testsAreNotNegated();
        testsAreThereOnce();
        testsWhereXIsOfNoMatter();
        testsWhereIIsOfNoMatter();
        noTests();
        asManyTestsAsCanBe();
        aLongWayThatPasses();
        aLongWayThatDoesNotPass();
        theLongestWayOfAll();
        aLeafForAllRows();
        leavesOfGapsAndAmbiguities();
        theFirstTestThatSplits();
        fromTheTestBehindItOn();
        treesThatAreTheSame();
        nodesAreNumberedAsTheyComeToBe();
        tooLargeWithMoreThan80();
        compileAnswersHowMany();
        compileWithoutSuchAGeneric();
        compileWhatIsTooLarge();
        nodeOfALeaf();
        nodeOfATest();
        nodeWithoutSuchAGenericOrWhat();
        nodeOfWhatIsNotCompiled();
        nodeThatIsNotThere();
        testTellsItsParts();
        testWithoutSuchAGenericOrWhat();
        testOfWhatIsNotCompiled();
        testThatIsNotThere();
        refusedByTheFirstReason();
        Due.end();
    }

    private static DispatchDesk desk(int classes, int arguments, String... conditions) {
        DispatchDesk x = Make.flat(classes);
        x.generic(arguments);
        for (String condition : conditions) {
            Make.method(x, 0, condition);
        }
        return x;
    }

    private static void dueNode(DispatchDesk x, int k, int test, int pass, int fail) {
        Due.is("node " + k + ": test", test, () -> x.node(0, k, 0));
        Due.is("node " + k + ": for what passes", pass, () -> x.node(0, k, 1));
        Due.is("node " + k + ": for what does not", fail, () -> x.node(0, k, 2));
    }

    private static void dueLeaf(DispatchDesk x, int k, int method) {
        dueNode(x, k, -1, method, -1);
    }

    private static void dueTest(DispatchDesk x, int k, int kind, int i, int number) {
        Due.is("test " + k + ": kind", kind, () -> x.test(0, k, 0));
        Due.is("test " + k + ": i", i, () -> x.test(0, k, 1));
        Due.is("test " + k + ": x", number, () -> x.test(0, k, 2));
    }

    private static void dueTests(DispatchDesk x, int count) {
        Due.yes("test " + (count - 1) + " is there", x.test(0, count - 1, 0) >= 0);
        Due.fails("test " + count, Due.NO_ELEMENT, () -> x.test(0, count, 0));
    }

    private static void testsByMethodsThenInOrder() {
        Due.sentence("the atoms of its methods, by their methods, then in order");
        DispatchDesk x = desk(1, 1, "", "", "");
        x.generic(1);
        Make.method(x, 1, "is 0 -4");
        Make.atom(x, 2, "below 0 3");
        Make.atom(x, 0, "is 0 1");
        Make.atom(x, 2, "below 0 -3");
        Make.atom(x, 0, "class 0 0");
        Make.atom(x, 1, "even 0");
        x.compile(0);
        dueTest(x, 0, 2, 0, 1);
        dueTest(x, 1, 0, 0, 0);
        dueTest(x, 2, 3, 0, 0);
        dueTest(x, 3, 1, 0, 3);
        dueTest(x, 4, 1, 0, -3);
        dueTests(x, 5);
    }

    private static void testsAreNotNegated() {
        Due.sentence("not negated");
        DispatchDesk x = desk(1, 1, "not even 0");
        Due.is("nodes", 3, () -> x.compile(0));
        dueTest(x, 0, 3, 0, 0);
        dueLeaf(x, 0, -1);
        dueLeaf(x, 1, 0);
        dueNode(x, 2, 0, 0, 1);
    }

    private static void testsAreThereOnce() {
        Due.sentence("each once (an atom whose words and numbers are the same is the same)");
        DispatchDesk x = desk(2, 2, "is 0 1, is 0 1, not is 0 1", "not is 0 1, is 1 1, below 0 1, class 0 1");
        x.compile(0);
        dueTest(x, 0, 2, 0, 1);
        dueTest(x, 1, 2, 1, 1);
        dueTest(x, 2, 1, 0, 1);
        dueTest(x, 3, 0, 0, 1);
        dueTests(x, 4);
        DispatchDesk alike = desk(1, 1, "below 0 -3", "is 0 -4");
        alike.compile(0);
        dueTests(alike, 2);
    }

    private static void testsWhereXIsOfNoMatter() {
        Due.sentence("where .. x is of no matter it is taken for 0");
        DispatchDesk x = desk(1, 2, "even 0 7, even 0 -7, even 1 2147483647", "even 0 0, even 1 -2147483648");
        x.compile(0);
        dueTest(x, 0, 3, 0, 0);
        dueTest(x, 1, 3, 1, 0);
        dueTests(x, 2);
    }

    private static void testsWhereIIsOfNoMatter() {
        Due.sentence("where i .. is of no matter it is taken for 0");
        DispatchDesk x = desk(1, 2, "less 1 1, same 1 1, less 9 -9, same -9 9", "less, same, less 0 1, same 1 0");
        x.compile(0);
        dueTest(x, 0, 4, 0, 0);
        dueTest(x, 1, 5, 0, 0);
        dueTests(x, 2);
    }

    private static void noTests() {
        Due.sentence("the atoms of its methods .. are TESTS 0, 1, ...");
        DispatchDesk x = desk(1, 2, "", "");
        x.compile(0);
        Due.fails("methods without atoms", Due.NO_ELEMENT, () -> x.test(0, 0, 0));
        DispatchDesk y = desk(1, 2);
        y.compile(0);
        Due.fails("no methods", Due.NO_ELEMENT, () -> y.test(0, 0, 0));
    }

    private static void asManyTestsAsCanBe() {
        Due.sentence("TESTS 0, 1, ... of 12 methods with 4 atoms each");
        DispatchDesk x = desk(8, 2, OF_48_TESTS);
        Due.is("best", 11, () -> x.best(0, 63, 63));
        int nodes = x.compile(0);
        dueTest(x, 47, 5, 0, 0);
        dueTests(x, 48);
        Due.yes("nodes", nodes > 2 && nodes <= 80);
        dueLeaf(x, 0, -1);
        dueLeaf(x, 1, 11);
        dueNode(x, 2, 47, 1, 0);
        Due.is("by the graph", 63, () -> x.run(0, 63, 63, 1));
        Due.is("all but test 47 pass", -1, () -> x.run(0, 63, 7, 1));
    }

    private static void aLongWayThatPasses() {
        Due.sentence("a node for that test, with the trees for those that pass ..");
        DispatchDesk x = Make.chain(8);
        x.generic(2);
        for (int i = 0; i < 2; i++) {
            neverHolding(x, i, "class", 1, 2, 3);
            neverHolding(x, i, "class", 4, 5, 6);
            neverHolding(x, i, "below", 3, 2, 1);
            neverHolding(x, i, "below", 0, -1, -2);
        }
        Make.method(x, 0, "class 0 7, class 1 7, below 0 -3, below 1 -3");
        dueWay(x, Make.value(7, -4), Make.value(7, -4), 28);
    }

    private static void aLongWayThatDoesNotPass() {
        Due.sentence("a node for that test, with the trees for .. those that do not");
        DispatchDesk x = Make.chain(8);
        x.generic(2);
        for (int i = 0; i < 2; i++) {
            neverHolding(x, i, "class", 7, 6, 5);
            neverHolding(x, i, "class", 4, 3, 2);
            neverHolding(x, i, "below", -3, -2, -1);
            neverHolding(x, i, "below", 0, 1, 2);
        }
        Make.method(x, 0, "not class 0 1, not class 1 1, not below 0 3, not below 1 3");
        dueWay(x, Make.value(0, 3), Make.value(0, 3), 28);
    }

    private static void neverHolding(DispatchDesk x, int i, String word, int... numbers) {
        StringBuilder condition = new StringBuilder("not " + word + " " + i + " " + numbers[0]);
        for (int n : numbers) {
            condition.append(", ").append(word).append(' ').append(i).append(' ').append(n);
        }
        Make.method(x, 0, condition.toString());
    }

    /** Besides the 28 tests that take one class or number away there are the two that look at both. */
    private static void theLongestWayOfAll() {
        Due.sentence("from the test behind it on");
        dueWay(desk(8, 2, OF_30_TESTS_ON_ONE_WAY), Make.value(7, 3), Make.value(6, -4), 30);
    }

    /** Each test splits what is left, and this row alone has a method at the end. */
    private static void dueWay(DispatchDesk x, int first, int second, int tests) {
        Due.is("nodes", tests + 2, () -> x.compile(0));
        Due.is("run", first, () -> x.run(0, first, second, 1));
        Due.is("tests", tests, x::tests);
    }

    private static void aLeafForAllRows() {
        Due.sentence("when all its rows have the same best method, a LEAF for that");
        DispatchDesk x = desk(8, 2, "", "below 0 -4", "even 0, not even 0");
        Due.is("tests that tell nothing", 1, () -> x.compile(0));
        dueLeaf(x, 0, 0);
        Due.fails("node 1", Due.NO_ELEMENT, () -> x.node(0, 1, 0));
        dueTests(x, 2);
    }

    private static void leavesOfGapsAndAmbiguities() {
        Due.sentence("(a gap and an ambiguity are leaves, too, -1 and -2)");
        DispatchDesk gap = desk(8, 2);
        Due.is("no methods", 1, () -> gap.compile(0));
        dueLeaf(gap, 0, -1);
        DispatchDesk ambiguity = desk(8, 2, "", "class 0 0");
        Due.is("two alike", 1, () -> ambiguity.compile(0));
        dueLeaf(ambiguity, 0, -2);
        DispatchDesk both = desk(1, 1, "even 0", "even 0");
        Due.is("both", 3, () -> both.compile(0));
        dueLeaf(both, 0, -2);
        dueLeaf(both, 1, -1);
        dueNode(both, 2, 0, 0, 1);
    }

    private static void theFirstTestThatSplits() {
        Due.sentence("the first test from k on that some of its rows pass and some not");
        DispatchDesk x = desk(2, 1, "class 0 0, below 0 4, not below 0 -4, is 0 3", "class 0 0");
        Due.is("nodes", 3, () -> x.compile(0));
        dueLeaf(x, 0, 0);
        dueLeaf(x, 1, 1);
        dueNode(x, 2, 3, 0, 1);
    }

    private static void fromTheTestBehindItOn() {
        Due.sentence("with the trees for those that pass and those that do not, from the test behind it on");
        DispatchDesk x = desk(1, 1, "below 0 1", "below 0 -3", "not below 0 3", "even 0, is 0 2");
        Due.is("nodes", 9, () -> x.compile(0));
        dueLeaf(x, 0, 1);
        dueLeaf(x, 1, 0);
        dueNode(x, 2, 1, 0, 1);
        dueLeaf(x, 3, 3);
        dueLeaf(x, 4, -1);
        dueNode(x, 5, 3, 3, 4);
        dueLeaf(x, 6, 2);
        dueNode(x, 7, 2, 5, 6);
        dueNode(x, 8, 0, 2, 7);
    }

    private static void treesThatAreTheSame() {
        Due.sentence("In the graph trees that are the same are one.");
        DispatchDesk x = desk(1, 2, "even 0, not even 0", "even 1");
        Due.is("nodes", 4, () -> x.compile(0));
        dueLeaf(x, 0, 1);
        dueLeaf(x, 1, -1);
        dueNode(x, 2, 1, 0, 1);
        dueNode(x, 3, 0, 2, 2);
    }

    private static void nodesAreNumberedAsTheyComeToBe() {
        Due.sentence("the tree of those that pass, then of those that do not, then the node; the last one is the ROOT");
        DispatchDesk x = desk(1, 2, "is 0 0, is 1 0", "not is 0 0, is 1 1", "is 0 0, not is 1 0", "not is 0 0");
        Due.is("nodes", 8, () -> x.compile(0));
        dueLeaf(x, 0, 0);
        dueLeaf(x, 1, 2);
        dueNode(x, 2, 1, 0, 1);
        dueLeaf(x, 3, 3);
        dueLeaf(x, 4, 1);
        dueNode(x, 5, 2, 4, 3);
        dueNode(x, 6, 1, 3, 5);
        dueNode(x, 7, 0, 2, 6);
        Due.fails("the root is the last one", Due.NO_ELEMENT, () -> x.node(0, 8, 0));
    }

    private static void tooLargeWithMoreThan80() {
        Due.sentence("It is TOO LARGE with more than 80 nodes.");
        DispatchDesk most = desk(2, 2, OF_80_NODES);
        Due.is("80 nodes", 80, () -> most.compile(0));
        Due.yes("the root, node 79", most.node(0, 79, 0) >= 0);
        Due.fails("node 80", Due.NO_ELEMENT, () -> most.node(0, 80, 0));
        DispatchDesk more = desk(2, 2, OF_81_NODES);
        Due.fails("81 nodes", Due.STATE, () -> more.compile(0));
    }

    private static void compileAnswersHowMany() {
        Due.sentence("Compiles a generic: how many nodes its graph has.");
        DispatchDesk x = desk(2, 2);
        x.generic(1);
        Due.is("no methods", 1, () -> x.compile(0));
        Make.method(x, 0, "even 0");
        Due.is("one test", 3, () -> x.compile(0));
        Due.is("again", 3, () -> x.compile(0));
        Due.fails("the other generic has none", Due.STATE, () -> x.node(1, 0, 0));
        Due.is("until it is compiled", 1, () -> x.compile(1));
        Due.is("which leaves the first", 0, () -> x.node(0, 2, 0));
    }

    private static void compileWithoutSuchAGeneric() {
        Due.sentence("compile: IllegalArgumentException: there is none");
        DispatchDesk x = desk(1, 1, "even 0");
        x.compile(0);
        Due.failsForEach("generic", Due.ARGUMENT, Due.outside(0, 0), n -> x.compile(n));
        dueNode(x, 2, 0, 0, 1);
    }

    private static void compileWhatIsTooLarge() {
        Due.sentence("compile: IllegalStateException: it would be too large (there is no graph then)");
        DispatchDesk x = desk(2, 2, OF_81_NODES);
        x.generic(1);
        x.compile(1);
        Due.is("a fault is found", 1, () -> x.check(1));
        Due.fails("too large", Due.STATE, () -> x.compile(0));
        Due.fails("no nodes", Due.STATE, () -> x.node(0, 0, 0));
        Due.fails("no tests", Due.STATE, () -> x.test(0, 0, 0));
        Due.is("the other graph stands", -1, () -> x.node(1, 0, 0));
        Due.is("the witness stands", 0, () -> x.witness(0));
        Due.is("calls are made without a graph", 12, () -> x.run(0, 12, 15, 1));
        Due.is("by no test", 0, x::tests);
        DispatchDesk grown = desk(2, 2, OF_80_NODES);
        Due.is("80 nodes", 80, () -> grown.compile(0));
        Make.method(grown, 0, "not even 0, is 1 3, same");
        Due.fails("then too large", Due.STATE, () -> grown.compile(0));
        Due.fails("the graph of before is gone, too", Due.STATE, () -> grown.node(0, 0, 0));
    }

    private static void nodeOfALeaf() {
        Due.sentence("0 its test (-1 for a leaf), 1 .. a leaf's method, 2 .. (-1 for a leaf)");
        DispatchDesk x = desk(1, 1, "even 0", "below 0 -3");
        Due.is("nodes", 5, () -> x.compile(0));
        dueLeaf(x, 0, 1);
        dueLeaf(x, 1, 0);
        dueLeaf(x, 3, -1);
    }

    private static void nodeOfATest() {
        Due.sentence("Of node k what 0 its test, 1 the node for what passes, 2 the node for what does not");
        DispatchDesk x = desk(1, 1, "even 0", "below 0 -3");
        x.compile(0);
        dueNode(x, 2, 1, 0, 1);
        dueNode(x, 4, 0, 2, 3);
    }

    private static void nodeWithoutSuchAGenericOrWhat() {
        Due.sentence("node: IllegalArgumentException: no such generic or what");
        DispatchDesk x = desk(1, 1, "even 0");
        x.compile(0);
        Due.failsForEach("generic", Due.ARGUMENT, Due.outside(0, 0), n -> x.node(n, 0, 0));
        Due.failsForEach("what", Due.ARGUMENT, Due.outside(0, 2), n -> x.node(0, 0, n));
    }

    private static void nodeOfWhatIsNotCompiled() {
        Due.sentence("node: IllegalStateException: it is not compiled");
        DispatchDesk x = desk(1, 1, "even 0");
        x.generic(1);
        x.compile(1);
        Due.failsForEach("node", Due.STATE, new int[] {0, -1, 2, 3, 80}, n -> x.node(0, n, 0));
    }

    private static void nodeThatIsNotThere() {
        Due.sentence("node: NoSuchElementException: there is no such node");
        DispatchDesk x = desk(1, 1, "even 0");
        x.compile(0);
        Due.failsForEach("of three", Due.NO_ELEMENT, Due.outside(0, 2), n -> x.node(0, n, 2));
        x.generic(1);
        x.compile(1);
        Due.failsForEach("of one", Due.NO_ELEMENT, Due.outside(0, 0), n -> x.node(1, n, 0));
    }

    private static void testTellsItsParts() {
        Due.sentence("Of test k what 0 its kind, 1 i, 2 x.");
        DispatchDesk x = desk(8, 2, "class 1 7, below 1 -4, below 0 4, is 1 3", "is 0 -4, even 1, less, same");
        x.compile(0);
        int[][] tests = {{0, 1, 7}, {1, 1, -4}, {1, 0, 4}, {2, 1, 3}, {2, 0, -4}, {3, 1, 0}, {4, 0, 0}, {5, 0, 0}};
        for (int k = 0; k < tests.length; k++) {
            dueTest(x, k, tests[k][0], tests[k][1], tests[k][2]);
        }
        dueTests(x, tests.length);
    }

    private static void testWithoutSuchAGenericOrWhat() {
        Due.sentence("test: As for node. (IllegalArgumentException: no such generic or what)");
        DispatchDesk x = desk(1, 1, "even 0");
        x.compile(0);
        Due.failsForEach("generic", Due.ARGUMENT, Due.outside(0, 0), n -> x.test(n, 0, 0));
        Due.failsForEach("what", Due.ARGUMENT, Due.outside(0, 2), n -> x.test(0, 0, n));
    }

    private static void testOfWhatIsNotCompiled() {
        Due.sentence("test: As for node. (IllegalStateException: it is not compiled)");
        DispatchDesk x = desk(1, 1, "even 0");
        Due.failsForEach("test", Due.STATE, new int[] {0, -1, 1, 48}, n -> x.test(0, n, 0));
    }

    private static void testThatIsNotThere() {
        Due.sentence("test: As for node. (NoSuchElementException: there is no such test)");
        DispatchDesk x = desk(1, 1, "even 0, below 0 1");
        x.compile(0);
        Due.failsForEach("of two", Due.NO_ELEMENT, Due.outside(0, 1), n -> x.test(0, n, 2));
        DispatchDesk y = desk(1, 1, "");
        y.compile(0);
        Due.failsForEach("of none", Due.NO_ELEMENT, new int[] {0, -1, 1}, n -> y.test(0, n, 0));
    }

    private static void refusedByTheFirstReason() {
        Due.sentence("IllegalArgumentException: ..; IllegalStateException: ..; NoSuchElementException: ..");
        DispatchDesk x = desk(1, 1, "even 0");
        Due.fails("no what, not compiled, no node", Due.ARGUMENT, () -> x.node(0, 9, 3));
        Due.fails("no what, not compiled, no test", Due.ARGUMENT, () -> x.test(0, 9, 3));
        Due.fails("not compiled, no node", Due.STATE, () -> x.node(0, 9, 0));
        Due.fails("not compiled, no test", Due.STATE, () -> x.test(0, 9, 0));
        x.compile(0);
        Due.fails("no what, no node", Due.ARGUMENT, () -> x.node(0, 9, -1));
        Due.fails("no what, no test", Due.ARGUMENT, () -> x.test(0, 9, -1));
    }
}
