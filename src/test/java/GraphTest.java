/** Promises 11 to 13: compile, node, test. */
public final class GraphTest {
    /** Found by trying many and counting with the model: 80 nodes and 81. */
    private static final int[][] AS_LARGE_AS_MAY_BE = {
        {2, 0, 2, 0, 0, 0, 1, 0}, {0, 1, 1, 0, 4, 0, 0, 0}, {1, 1, -1, 0, 5, 0, 0, 1},
        {1, 0, 3, 0, 1, 0, 0, 0}, {1, 1, 0, 0, 5, 0, 0, 1}, {3, 1, 0, 0, 1, 1, -1, 0},
        {2, 0, 0, 1, 0, 1, 1, 1}, {3, 0, 0, 0, 3, 1, 0, 0}};
    private static final int[][] TOO_LARGE = {
        {5, 0, 0, 0, 2, 0, -3, 0}, {5, 0, 0, 1, 1, 1, 2, 0}, {3, 0, 0, 1, 2, 1, 1, 0},
        {0, 0, 1, 1, 1, 1, 0, 0}, {1, 0, 0, 0, 3, 1, 0, 1}, {3, 0, 0, 0, 1, 1, 3, 1},
        {3, 0, 0, 1, 2, 1, -2, 0}, {0, 0, 1, 1, 5, 0, 0, 1}};

    public static void main(String[] args) {
        leaves();
        oneTest();
        testsAreListedOnce();
        sameTreesAreOne();
        bothSidesTheSame();
        testsThatSplitNothingAreLeftOut();
        gapsAndAmbiguitiesAreLeaves();
        exactlyAsLargeAsMayBe();
        tooLarge();
        wrongQuestions();
        Due.end();
    }

    private static int methodWith(DispatchDesk x, int generic, int kind, int i, int c, boolean negated) {
        int m = x.method(generic);
        x.atom(m, kind, i, c, negated);
        return m;
    }

    private static void dueNode(DispatchDesk x, int k, int test, int pass, int fail) {
        int[] want = {test, pass, fail};
        for (int what = 0; what < 3; what++) {
            int w = what;
            Due.is("node " + k + " what " + what, want[what], () -> x.node(0, k, w));
        }
    }

    private static void dueTest(DispatchDesk x, int k, int kind, int i, int c) {
        int[] want = {kind, i, c};
        for (int what = 0; what < 3; what++) {
            int w = what;
            Due.is("test " + k + " what " + what, want[what], () -> x.test(0, k, w));
        }
    }

    private static void leaves() {
        DispatchDesk x = new DispatchDesk();
        x.generic(2);
        Due.is("without methods", 1, () -> x.compile(0));
        dueNode(x, 0, -1, -1, -1);
        x.method(0);
        Due.is("one method", 1, () -> x.compile(0));
        dueNode(x, 0, -1, 0, -1);
        x.method(0);
        Due.is("two that are the same", 1, () -> x.compile(0));
        dueNode(x, 0, -1, -2, -1);
        Due.is("again", 1, () -> x.compile(0));
        Due.fails("no tests", Due.NO_ELEMENT, () -> x.test(0, 0, 0));
    }

    private static void oneTest() {
        DispatchDesk x = new DispatchDesk();
        x.generic(1);
        x.method(0);
        methodWith(x, 0, 1, 0, 0, true);
        Due.is("not below 0", 3, () -> x.compile(0));
        dueNode(x, 0, -1, 0, -1);
        dueNode(x, 1, -1, 1, -1);
        dueNode(x, 2, 0, 0, 1);
        dueTest(x, 0, 1, 0, 0);
    }

    private static void testsAreListedOnce() {
        DispatchDesk x = new DispatchDesk();
        x.klass(0);
        x.generic(2);
        int late = x.method(0);
        int early = x.method(0);
        x.atom(early, 2, 1, 3, false);
        x.atom(early, 3, 1, 9, true);
        x.atom(late, 3, 1, -2, false);
        x.atom(late, 3, 0, 7, false);
        x.atom(late, 4, 5, 6, false);
        x.atom(early, 4, 1, 1, true);
        x.atom(late, 5, 8, 1, false);
        x.atom(early, 2, 0, 3, false);
        x.compile(0);
        dueTest(x, 0, 3, 1, 0);
        dueTest(x, 1, 3, 0, 0);
        dueTest(x, 2, 4, 0, 0);
        dueTest(x, 3, 5, 0, 0);
        dueTest(x, 4, 2, 1, 3);
        dueTest(x, 5, 2, 0, 3);
        Due.fails("there are 6 tests", Due.NO_ELEMENT, () -> x.test(0, 6, 0));
    }

    private static void sameTreesAreOne() {
        DispatchDesk x = new DispatchDesk();
        x.generic(2);
        x.method(0);
        int odd = methodWith(x, 0, 3, 0, 0, true);
        x.atom(odd, 3, 1, 0, true);
        int even = methodWith(x, 0, 3, 0, 0, false);
        x.atom(even, 3, 1, 0, false);
        Due.is("two of the leaves are one", 6, () -> x.compile(0));
        dueNode(x, 0, -1, even, -1);
        dueNode(x, 1, -1, 0, -1);
        dueNode(x, 2, 1, 0, 1);
        dueNode(x, 3, -1, odd, -1);
        dueNode(x, 4, 1, 1, 3);
        dueNode(x, 5, 0, 2, 4);
    }

    /** A first test that tells nothing is a node all the same, with one tree for both sides. */
    private static void bothSidesTheSame() {
        DispatchDesk x = new DispatchDesk();
        x.generic(2);
        int never = methodWith(x, 0, 3, 0, 0, false);
        x.atom(never, 3, 0, 0, true);
        methodWith(x, 0, 3, 1, 0, false);
        Due.is("nodes", 4, () -> x.compile(0));
        dueNode(x, 0, -1, 1, -1);
        dueNode(x, 1, -1, -1, -1);
        dueNode(x, 2, 1, 0, 1);
        dueNode(x, 3, 0, 2, 2);
    }

    private static void testsThatSplitNothingAreLeftOut() {
        DispatchDesk x = new DispatchDesk();
        x.generic(1);
        methodWith(x, 0, 0, 0, 0, false);
        methodWith(x, 0, 1, 0, 4, false);
        methodWith(x, 0, 1, 0, -4, false);
        int low = methodWith(x, 0, 1, 0, -2, false);
        int lowest = methodWith(x, 0, 2, 0, -4, false);
        Due.is("nodes", 5, () -> x.compile(0));
        dueNode(x, 0, -1, lowest, -1);
        dueNode(x, 1, -1, low, -1);
        dueNode(x, 2, 4, 0, 1);
        dueNode(x, 3, -1, -2, -1);
        dueNode(x, 4, 3, 2, 3);
        dueTest(x, 1, 1, 0, 4);
    }

    private static void gapsAndAmbiguitiesAreLeaves() {
        DispatchDesk x = new DispatchDesk();
        x.generic(1);
        methodWith(x, 0, 1, 0, 0, false);
        methodWith(x, 0, 3, 0, 0, false);
        Due.is("nodes", 7, () -> x.compile(0));
        dueNode(x, 0, -1, -2, -1);
        dueNode(x, 1, -1, 0, -1);
        dueNode(x, 2, 1, 0, 1);
        dueNode(x, 3, -1, 1, -1);
        dueNode(x, 4, -1, -1, -1);
        dueNode(x, 5, 1, 3, 4);
        dueNode(x, 6, 0, 2, 5);
    }

    /** A generic of two arguments with a method of two atoms (kind, i, x, negated) for each line. */
    private static DispatchDesk large(int[][] lines) {
        DispatchDesk x = new DispatchDesk();
        x.generic(2);
        x.klass(0);
        for (int[] line : lines) {
            int m = methodWith(x, 0, line[0], line[1], line[2], line[3] == 1);
            x.atom(m, line[4], line[5], line[6], line[7] == 1);
        }
        return x;
    }

    private static void exactlyAsLargeAsMayBe() {
        DispatchDesk x = large(AS_LARGE_AS_MAY_BE);
        Due.is("80 nodes", 80, () -> x.compile(0));
        Due.yes("the root has a test", x.node(0, 79, 0) >= 0);
        Due.fails("node 80", Due.NO_ELEMENT, () -> x.node(0, 80, 0));
    }

    private static void tooLarge() {
        DispatchDesk x = large(TOO_LARGE);
        Due.fails("81 nodes", Due.STATE, () -> x.compile(0));
        Due.fails("then there is no graph", Due.STATE, () -> x.node(0, 0, 0));
        Due.fails("nor are there tests", Due.STATE, () -> x.test(0, 0, 0));
        Due.fails("again", Due.STATE, () -> x.compile(0));
        Due.is("best goes on without", 5, () -> x.best(0, 12, 15));
        Due.is("and so does run, by no tests", 12, () -> x.run(0, 12, 15, 1));
        Due.is("none", 0, x::tests);
        x.generic(1);
        Due.is("and other generics compile", 1, () -> x.compile(1));
    }

    private static void wrongQuestions() {
        DispatchDesk x = new DispatchDesk();
        x.generic(1);
        Due.fails("compile(-1)", Due.ARGUMENT, () -> x.compile(-1));
        Due.fails("compile(1)", Due.ARGUMENT, () -> x.compile(1));
        Due.fails("node before compile", Due.STATE, () -> x.node(0, 0, 0));
        Due.fails("test before compile", Due.STATE, () -> x.test(0, 0, 0));
        Due.fails("node what -1 before compile", Due.ARGUMENT, () -> x.node(0, 0, -1));
        Due.fails("test what 3 before compile", Due.ARGUMENT, () -> x.test(0, 0, 3));
        methodWith(x, 0, 3, 0, 0, false);
        x.compile(0);
        Due.fails("node of generic 1", Due.ARGUMENT, () -> x.node(1, 0, 0));
        Due.fails("node of generic -1", Due.ARGUMENT, () -> x.node(-1, 0, 0));
        Due.fails("test of generic 1", Due.ARGUMENT, () -> x.test(1, 0, 0));
        Due.fails("node what 3", Due.ARGUMENT, () -> x.node(0, 99, 3));
        Due.fails("test what -1", Due.ARGUMENT, () -> x.test(0, 99, -1));
        Due.fails("node -1", Due.NO_ELEMENT, () -> x.node(0, -1, 0));
        Due.fails("node 3", Due.NO_ELEMENT, () -> x.node(0, 3, 0));
        Due.fails("test -1", Due.NO_ELEMENT, () -> x.test(0, -1, 0));
        Due.fails("test 1", Due.NO_ELEMENT, () -> x.test(0, 1, 0));
    }
}
