/**
 * The sentences of the section 'Terms' that name a boundary, each with a test of its own; those of
 * bodies are in EdgesOfRunningTest, those of graphs in EdgesOfGraphsTest.
 */
public final class EdgesOfTermsTest {
    private static final int LOWEST = -4;
    private static final int HIGHEST = 3;

    public static void main(String[] args) {
        atMost512Calls();
        classesAre0To7();
        classesAreAllThatIsAboveThem();
        sumsWrapAround();
        productsWrapAround();
        genericsAre0To3();
        methodsAre0To11();
        rowsGoByTheFirstArgumentFirst();
        rowsGoByTheClassFirst();
        theLastRowOfAll();
        conditionsHaveAtMost4Atoms();
        negatedAtoms();
        theClassIs();
        theNumberIsBelow();
        theNumberIs();
        theNumberIsEven();
        theFirstIsBelowTheSecond();
        bothHaveTheSameClass();
        twoArgumentsAlone();
        withoutAtoms();
        beyondForAllRows();
        beyondNotTheOtherWayRound();
        theBestIsBeyondAllOthers();
        gapsAndAmbiguities();
        Due.end();
    }

    private static void atMost512Calls() {
        Due.sentence("An object is used for at most 512 calls after it has been made");
        DispatchDesk x = Make.desk(1, "ARGUMENT 0, NUMBER 1, ADD");
        int madeWith = 6;
        for (int calls = madeWith; calls < 511; calls++) {
            x.run(0, calls % 16, 0, 200);
        }
        Due.is("the 512th call", 7, () -> x.run(0, 6, 0, 4));
    }

    private static void classesAre0To7() {
        Due.sentence("CLASSES 0 .. 7: each but class 0 has a PARENT with a lower number");
        DispatchDesk x = new DispatchDesk();
        for (int c = 1; c < 8; c++) {
            int own = c;
            Due.fails("class " + c + " with itself for a parent", Due.ARGUMENT, () -> x.klass(own));
            Due.is("class " + c, c, () -> x.klass(own - 1));
        }
        Due.fails("a class behind class 7", Due.STATE, () -> x.klass(0));
        x.generic(1);
        Due.is("class 7 has values", -1, () -> x.best(0, Make.value(7, HIGHEST), 0));
        Due.fails("class 8 has none", Due.ARGUMENT, () -> x.best(0, Make.value(8, LOWEST), 0));
    }

    private static void classesAreAllThatIsAboveThem() {
        Due.sentence("c IS d when they are the same, or c's parent is d. (So it goes up to class 0.)");
        int[][] forests = {{0, 0, 1, 2, 3, 4, 5, 6}, {0, 0, 0, 0, 0, 0, 0, 0}, {0, 0, 0, 1, 1, 2, 4, 6}};
        for (int[] parents : forests) {
            for (int d = 0; d < 8; d++) {
                dueClass(parents, d);
            }
        }
    }

    private static void dueClass(int[] parents, int d) {
        DispatchDesk x = new DispatchDesk();
        for (int c = 1; c < 8; c++) {
            x.klass(parents[c]);
        }
        x.generic(1);
        Make.method(x, 0, "class 0 " + d);
        for (int c = 0; c < 8; c++) {
            int value = Make.value(c, 0);
            int due = isBelow(parents, c, d) ? 0 : -1;
            Due.is("class " + c + " is class " + d, due, () -> x.best(0, value, 0));
        }
    }

    private static boolean isBelow(int[] parents, int c, int d) {
        int at = c;
        while (at != d && at != 0) {
            at = parents[at];
        }
        return at == d;
    }

    private static void sumsWrapAround() {
        Due.sentence("NUMBER, -4 .. 3 (sums .. are taken modulo 8 into that)");
        DispatchDesk x = Make.desk(2, "ARGUMENT 0, ARGUMENT 1, ADD");
        int[][] sums = {{3, 0, 3}, {3, 1, -4}, {3, 3, -2}, {2, 2, -4}, {-4, 0, -4}, {-4, -1, 3},
            {-4, -4, 0}, {-4, 3, -1}, {-1, -3, -4}, {-2, -3, 3}, {1, 2, 3}, {3, -3, 0}};
        for (int[] sum : sums) {
            dueOfTwo(x, sum[0] + " + " + sum[1], sum);
        }
    }

    private static void productsWrapAround() {
        Due.sentence("NUMBER, -4 .. 3 (.. products are taken modulo 8 into that)");
        DispatchDesk x = Make.desk(2, "ARGUMENT 0, ARGUMENT 1, MULTIPLY");
        int[][] products = {{3, 1, 3}, {3, 3, 1}, {3, 2, -2}, {2, 2, -4}, {-4, 1, -4}, {-4, -1, -4},
            {-4, -4, 0}, {-4, 3, -4}, {3, -3, -1}, {-3, -3, 1}, {-4, 2, 0}, {-2, 3, 2}, {-1, 3, -3}};
        for (int[] product : products) {
            dueOfTwo(x, product[0] + " * " + product[1], product);
        }
    }

    private static void dueOfTwo(DispatchDesk x, String what, int[] numbers) {
        int first = Make.value(0, numbers[0]);
        int second = Make.value(0, numbers[1]);
        Due.is(what, Make.value(0, numbers[2]), () -> x.run(0, first, second, 4));
    }

    private static void genericsAre0To3() {
        Due.sentence("GENERICS 0 .. 3 take 1 or 2 arguments.");
        DispatchDesk x = new DispatchDesk();
        int[] arguments = {2, 1, 1, 2};
        for (int g = 0; g < 4; g++) {
            int taken = arguments[g];
            Due.is("generic " + g, g, () -> x.generic(taken));
        }
        Due.fails("generic 4", Due.STATE, () -> x.generic(1));
        for (int g = 0; g < 4; g++) {
            int asked = g;
            x.check(g);
            if (arguments[g] == 2) {
                Due.is("generic " + g + " takes two", 0, () -> x.witness(1));
            } else {
                Due.fails("generic " + g + " takes one", Due.NO_ELEMENT, () -> x.witness(1));
            }
            Due.is("generic " + g + " is there", 1, () -> x.compile(asked));
        }
    }

    private static void methodsAre0To11() {
        Due.sentence("METHODS 0 .. 11 belong to a generic, and have a CONDITION and a BODY.");
        DispatchDesk x = Make.flat(2);
        x.generic(1);
        x.generic(1);
        for (int m = 0; m < 11; m++) {
            int made = m;
            Due.is("method " + m, m, () -> x.method(made % 2));
        }
        Due.is("method 11", 11, () -> Make.method(x, 1, "class 0 1, even 0", "NUMBER 2"));
        Due.fails("method 12", Due.STATE, () -> x.method(0));
        Due.is("method 11 has a condition", 11, () -> x.best(1, Make.value(1, 0), 0));
        Due.yes("and is beyond method 9", x.beyond(11, 9));
        Due.is("and has a body", Make.value(0, 2), () -> x.run(1, Make.value(1, 0), 0, 2));
        x.compile(1);
        Due.is("it is a leaf", 11, () -> x.node(1, 0, 1));
        Due.is("by the graph", Make.value(0, 2), () -> x.run(1, Make.value(1, 0), 0, 2));
        Due.is("it does not belong to generic 0", -2, () -> x.best(0, Make.value(1, 0), 0));
    }

    private static void rowsGoByTheFirstArgumentFirst() {
        Due.sentence("rows are in order by the first one's class, then its number, then the second one's");
        DispatchDesk x = Make.flat(2);
        x.generic(2);
        Make.method(x, 0, "not is 0 -3, not class 1 1");
        dueWitness(x, 1, Make.value(0, -4), Make.value(1, -4));
        DispatchDesk y = Make.flat(2);
        y.generic(2);
        Make.method(y, 0, "not class 0 1, not is 1 3");
        dueWitness(y, 1, Make.value(0, -4), Make.value(0, 3));
    }

    private static void rowsGoByTheClassFirst() {
        Due.sentence("the first one's class, then its number, then the second one's class, its number");
        DispatchDesk x = Make.flat(3);
        x.generic(2);
        Make.method(x, 0, "not class 0 2, not is 0 3");
        dueWitness(x, 1, Make.value(0, 3), Make.value(0, -4));
        DispatchDesk y = Make.flat(3);
        y.generic(2);
        Make.method(y, 0, "not class 1 2, not is 1 3");
        dueWitness(y, 1, Make.value(0, -4), Make.value(0, 3));
        DispatchDesk z = Make.flat(3);
        z.generic(1);
        Make.method(z, 0, "not class 0 2, not class 0 1");
        Due.is("a gap in class 1", 1, () -> z.check(0));
        Due.is("before class 2", Make.value(1, -4), () -> z.witness(0));
    }

    private static void theLastRowOfAll() {
        Due.sentence("A ROW is a value for each argument; rows are in order");
        DispatchDesk x = Make.flat(8);
        x.generic(2);
        Make.method(x, 0, "not class 0 7");
        Make.method(x, 0, "class 0 7, not is 0 3");
        Make.method(x, 0, "class 0 7, is 0 3, not class 1 7");
        Make.method(x, 0, "class 0 7, is 0 3, class 1 7, not is 1 3");
        dueWitness(x, 1, 63, 63);
        Make.method(x, 0, "class 0 7, is 0 3, class 1 7, is 1 3");
        Due.is("now it has one", 0, () -> x.check(0));
        Make.method(x, 0, "class 0 7, is 0 3, class 1 7, not below 1 3");
        dueWitness(x, 2, 63, 63);
    }

    private static void dueWitness(DispatchDesk x, int answer, int first, int second) {
        Due.is("check", answer, () -> x.check(0));
        Due.is("first", first, () -> x.witness(0));
        Due.is("second", second, () -> x.witness(1));
    }

    private static void conditionsHaveAtMost4Atoms() {
        Due.sentence("A condition is at most 4 ATOMS that all must hold");
        DispatchDesk x = Make.flat(2);
        x.generic(2);
        int m = Make.method(x, 0, "class 0 1, is 0 -4, class 1 1, is 1 3");
        Due.fails("a fifth", Due.STATE, () -> Make.atom(x, m, "less"));
        int first = Make.value(1, -4);
        int second = Make.value(1, 3);
        Due.is("all hold", m, () -> x.best(0, first, second));
        Due.is("all but the first", -1, () -> x.best(0, Make.value(0, -4), second));
        Due.is("all but the second", -1, () -> x.best(0, Make.value(1, -3), second));
        Due.is("all but the third", -1, () -> x.best(0, first, Make.value(0, 3)));
        Due.is("all but the fourth", -1, () -> x.best(0, first, Make.value(1, 2)));
    }

    private static void negatedAtoms() {
        Due.sentence("each perhaps NEGATED");
        String[] atoms = {"class 0 1", "below 0 0", "is 0 0", "even 0", "less", "same"};
        for (String atom : atoms) {
            DispatchDesk x = Make.flat(2);
            x.generic(2);
            Make.method(x, 0, atom);
            Make.method(x, 0, "not " + atom);
            Due.is(atom + ", or not: each row has one", 0, () -> x.check(0));
            int both = Make.method(x, 0, atom + ", not " + atom);
            Due.is(atom + ", and not: holds nowhere", 0, () -> x.check(0));
            Due.yes("so it is beyond the one", x.beyond(both, 0));
            Due.yes("and the other", x.beyond(both, 1));
        }
    }

    private static void theClassIs() {
        Due.sentence("0 the class of argument i is c.");
        DispatchDesk x = Make.flat(8);
        x.generic(2);
        Make.method(x, 0, "class 0 7, class 1 0");
        Due.is("7, 0", 0, () -> x.best(0, Make.value(7, -4), Make.value(0, 3)));
        Due.is("7, 7: class 0 is all classes", 0, () -> x.best(0, Make.value(7, 3), Make.value(7, -4)));
        Due.is("6, 0", -1, () -> x.best(0, Make.value(6, 3), Make.value(0, 0)));
        Due.is("0, 7", -1, () -> x.best(0, Make.value(0, 0), Make.value(7, 0)));
    }

    private static void theNumberIsBelow() {
        Due.sentence("1 the number of argument i is below x (-4 .. 4).");
        for (int limit = LOWEST; limit <= HIGHEST + 1; limit++) {
            DispatchDesk x = Make.flat(2);
            x.generic(2);
            Make.method(x, 0, "below 1 " + limit);
            for (int n = LOWEST; n <= HIGHEST; n++) {
                int value = Make.value(1, n);
                Due.is(n + " is below " + limit, n < limit ? 0 : -1, () -> x.best(0, 0, value));
            }
        }
        DispatchDesk x = new DispatchDesk();
        x.generic(1);
        x.method(0);
        Due.fails("below -5", Due.ARGUMENT, () -> Make.atom(x, 0, "below 0 -5"));
        Due.fails("below 5", Due.ARGUMENT, () -> Make.atom(x, 0, "below 0 5"));
    }

    private static void theNumberIs() {
        Due.sentence("2 it is x (-4 .. 3).");
        for (int wanted = LOWEST; wanted <= HIGHEST; wanted++) {
            DispatchDesk x = new DispatchDesk();
            x.generic(1);
            Make.method(x, 0, "is 0 " + wanted);
            for (int n = LOWEST; n <= HIGHEST; n++) {
                int value = Make.value(0, n);
                Due.is(n + " is " + wanted, n == wanted ? 0 : -1, () -> x.best(0, value, 0));
            }
        }
        DispatchDesk x = new DispatchDesk();
        x.generic(1);
        x.method(0);
        Due.fails("is -5", Due.ARGUMENT, () -> Make.atom(x, 0, "is 0 -5"));
        Due.fails("is 4", Due.ARGUMENT, () -> Make.atom(x, 0, "is 0 4"));
    }

    private static void theNumberIsEven() {
        Due.sentence("3 it is even (x of no matter).");
        for (int n : new int[] {0, 4, -5, 99, Integer.MIN_VALUE, Integer.MAX_VALUE}) {
            DispatchDesk x = new DispatchDesk();
            x.generic(1);
            Make.method(x, 0, "even 0 " + n);
            int[] due = {0, -1, 0, -1, 0, -1, 0, -1};
            for (int value = 0; value < 8; value++) {
                int asked = value;
                Due.is("even with x " + n + " at value " + value, due[value], () -> x.best(0, asked, 0));
            }
        }
    }

    private static void theFirstIsBelowTheSecond() {
        Due.sentence("4 the number of the first argument is below that of the second (i and x of no matter).");
        for (int n : new int[] {0, -1, 2, Integer.MIN_VALUE, Integer.MAX_VALUE}) {
            DispatchDesk x = Make.flat(2);
            x.generic(2);
            Make.method(x, 0, "less " + n + " " + n);
            Due.is("-4, -3", 0, () -> x.best(0, Make.value(0, -4), Make.value(0, -3)));
            Due.is("-4, 3", 0, () -> x.best(0, Make.value(1, -4), Make.value(0, 3)));
            Due.is("-4, -4", -1, () -> x.best(0, Make.value(0, -4), Make.value(1, -4)));
            Due.is("3, 3", -1, () -> x.best(0, Make.value(0, 3), Make.value(0, 3)));
            Due.is("3, 2, of a higher class", -1, () -> x.best(0, Make.value(0, 3), Make.value(1, 2)));
            Due.is("3, -4", -1, () -> x.best(0, Make.value(1, 3), Make.value(1, -4)));
        }
    }

    private static void bothHaveTheSameClass() {
        Due.sentence("5 both arguments have the same class (likewise).");
        for (int n : new int[] {0, -1, 2, Integer.MIN_VALUE, Integer.MAX_VALUE}) {
            DispatchDesk x = Make.chain(8);
            x.generic(2);
            Make.method(x, 0, "same " + n + " " + n);
            Due.is("0, 0", 0, () -> x.best(0, Make.value(0, -4), Make.value(0, 3)));
            Due.is("7, 7", 0, () -> x.best(0, Make.value(7, 3), Make.value(7, -4)));
            Due.is("7 is 6, but not the same", -1, () -> x.best(0, Make.value(7, 0), Make.value(6, 0)));
            Due.is("0, 1 side by side", -1, () -> x.best(0, Make.value(0, 3), Make.value(1, -4)));
        }
    }

    private static void twoArgumentsAlone() {
        Due.sentence("4 and 5 are for generics of two arguments alone.");
        DispatchDesk x = new DispatchDesk();
        x.generic(1);
        x.generic(2);
        x.method(0);
        x.method(1);
        Due.fails("4 of one", Due.ARGUMENT, () -> Make.atom(x, 0, "less"));
        Due.fails("5 of one", Due.ARGUMENT, () -> Make.atom(x, 0, "same"));
        Due.fails("not 4 of one", Due.ARGUMENT, () -> Make.atom(x, 0, "not less"));
        Due.fails("not 5 of one", Due.ARGUMENT, () -> Make.atom(x, 0, "not same"));
        Due.is("4 of two", 1, () -> Make.atom(x, 1, "less"));
        Due.is("5 of two", 2, () -> Make.atom(x, 1, "same"));
        Due.is("of one nothing was added", 1, () -> Make.atom(x, 0, "even 0"));
    }

    private static void withoutAtoms() {
        Due.sentence("Without atoms it holds for all rows.");
        for (int arguments = 1; arguments <= 2; arguments++) {
            DispatchDesk x = Make.chain(8);
            x.generic(arguments);
            x.method(0);
            Due.is("each row has one", 0, () -> x.check(0));
            Due.is("the first row", 0, () -> x.best(0, 0, 0));
            Due.is("the last row", 0, () -> x.best(0, 63, 63));
            int full = Make.method(x, 0, "class 0 0, below 0 4, not below 0 -4, class 0 0");
            Due.no("what holds for all rows is not beyond it", x.beyond(full, 0));
            Due.no("nor the other way round", x.beyond(0, full));
        }
    }

    private static void beyondForAllRows() {
        Due.sentence("whenever its condition holds (for all rows) that one's does");
        DispatchDesk x = Make.flat(8);
        x.generic(2);
        int low = Make.method(x, 0, "not class 0 7");
        int lowOrOdd = Make.method(x, 0, "not class 0 7, even 1");
        int all = Make.method(x, 0, "");
        int last = Make.method(x, 0, "class 0 7, is 0 3, class 1 7, is 1 3");
        int first = Make.method(x, 0, "not class 0 7, is 0 -4, is 1 -4");
        Due.yes("one more atom", x.beyond(lowOrOdd, low));
        Due.yes("a part of all rows", x.beyond(low, all));
        Due.yes("the last row alone", x.beyond(last, all));
        Due.no("the last row is not among them", x.beyond(last, low));
        Due.yes("the first number is even", x.beyond(first, lowOrOdd));
        DispatchDesk y = Make.flat(8);
        y.generic(2);
        int butTheLast = Make.method(y, 0, "not class 1 7");
        int same = Make.method(y, 0, "same, not class 0 7");
        Due.yes("what has no class 7 twice", y.beyond(same, butTheLast));
        Due.no("in one row of all it does not", y.beyond(Make.method(y, 0, "same"), butTheLast));
    }

    private static void beyondNotTheOtherWayRound() {
        Due.sentence("and not the other way round");
        String[][] alike = {{"below 0 -3", "is 0 -4"}, {"not below 0 3", "is 0 3"}, {"", "class 0 0"},
            {"below 0 -4", "not below 0 4"}, {"even 0", "even 0"}, {"class 0 1, class 0 2", "below 0 -4"}};
        for (String[] two : alike) {
            DispatchDesk x = Make.flat(3);
            x.generic(1);
            int one = Make.method(x, 0, two[0]);
            int other = Make.method(x, 0, two[1]);
            Due.no(two[0] + " beyond " + two[1], x.beyond(one, other));
            Due.no(two[1] + " beyond " + two[0], x.beyond(other, one));
            Due.no(two[0] + " beyond itself", x.beyond(one, one));
        }
    }

    private static void theBestIsBeyondAllOthers() {
        Due.sentence("THE BEST method for a row is the applicable one that is beyond all others that are applicable.");
        DispatchDesk x = Make.chain(8);
        x.generic(1);
        for (int c = 1; c < 8; c++) {
            Make.method(x, 0, "class 0 " + c);
        }
        for (int limit = 3; limit >= -1; limit--) {
            Make.method(x, 0, "class 0 7, below 0 " + limit);
        }
        Due.is("twelve are applicable", 11, () -> x.best(0, Make.value(7, -4), 0));
        Due.is("eleven", 10, () -> x.best(0, Make.value(7, -1), 0));
        Due.is("seven", 6, () -> x.best(0, Make.value(7, 3), 0));
        Due.is("one alone", 0, () -> x.best(0, Make.value(1, 3), 0));
        Due.is("none", -1, () -> x.best(0, Make.value(0, 3), 0));
    }

    private static void gapsAndAmbiguities() {
        Due.sentence("A GAP at a row to which nothing is applicable, AMBIGUOUS at one where something is, "
                + "but nothing is best.");
        DispatchDesk x = new DispatchDesk();
        x.generic(1);
        Due.is("no method at all", -1, () -> x.best(0, 4, 0));
        Make.method(x, 0, "below 0 -4");
        Due.is("a method that never holds", -1, () -> x.best(0, 4, 0));
        x.method(0);
        Due.is("one alone", 1, () -> x.best(0, 4, 0));
        x.method(0);
        Due.is("two that are alike", -2, () -> x.best(0, 4, 0));
        int even = Make.method(x, 0, "even 0");
        Due.is("one beyond two that are alike", even, () -> x.best(0, 4, 0));
        Make.method(x, 0, "below 0 1");
        Due.is("two of which none is beyond the other", -2, () -> x.best(0, 4, 0));
        Due.is("while one of them is best elsewhere", even, () -> x.best(0, 6, 0));
    }
}
