/** Promises 7 to 10: beyond, best, check, witness. */
public final class ChoosingTest {
    public static void main(String[] args) {
        beyondByClass();
        beyondByNumber();
        beyondByMeaning();
        beyondOfWhatNeverHolds();
        beyondOfTwoArguments();
        beyondGrowsWithClasses();
        wrongMethods();
        bestOfOneArgument();
        bestOfTwoArguments();
        wrongRows();
        everyKindOfAtom();
        checkFindsTheFirstRow();
        witnessGoesWithChanges();
        witnessIsOfTheLatestCheck();
        Due.end();
    }

    private static int methodWith(DispatchDesk x, int generic, int kind, int i, int c, boolean negated) {
        int m = x.method(generic);
        x.atom(m, kind, i, c, negated);
        return m;
    }

    private static void beyondByClass() {
        DispatchDesk x = new DispatchDesk();
        x.klass(0);
        x.klass(1);
        x.klass(2);
        x.generic(1);
        int all = x.method(0);
        int one = methodWith(x, 0, 0, 0, 1, false);
        int three = methodWith(x, 0, 0, 0, 3, false);
        int zero = methodWith(x, 0, 0, 0, 0, false);
        Due.yes("class 3 is class 1, over class 2", x.beyond(three, one));
        Due.no("class 1 is no class 3", x.beyond(one, three));
        Due.yes("what has a condition is beyond what has none", x.beyond(one, all));
        Due.no("class 0 is all rows", x.beyond(zero, all));
        Due.no("all rows are class 0", x.beyond(all, zero));
        Due.no("none is beyond itself", x.beyond(one, one));
    }

    private static void beyondByNumber() {
        DispatchDesk x = new DispatchDesk();
        x.generic(1);
        int below0 = methodWith(x, 0, 1, 0, 0, false);
        int below1 = methodWith(x, 0, 1, 0, 1, false);
        int isMinus1 = methodWith(x, 0, 2, 0, -1, false);
        int not2 = methodWith(x, 0, 2, 0, 2, true);
        int even = methodWith(x, 0, 3, 0, 0, false);
        Due.yes("below 0, below 1", x.beyond(below0, below1));
        Due.no("below 1, below 0", x.beyond(below1, below0));
        Due.yes("-1, below 0", x.beyond(isMinus1, below0));
        Due.yes("below 1, not 2", x.beyond(below1, not2));
        Due.no("even, not 2", x.beyond(even, not2));
        Due.no("-1, even", x.beyond(isMinus1, even));
    }

    /** Conditions with other words that hold for the same rows are not beyond each other. */
    private static void beyondByMeaning() {
        DispatchDesk x = new DispatchDesk();
        x.generic(1);
        int below = methodWith(x, 0, 1, 0, -3, false);
        int is = methodWith(x, 0, 2, 0, -4, false);
        Due.no("below -3, is -4", x.beyond(below, is));
        Due.no("is -4, below -3", x.beyond(is, below));
        Due.is("so there is no best", -2, () -> x.best(0, 0, 0));
    }

    private static void beyondOfWhatNeverHolds() {
        DispatchDesk x = new DispatchDesk();
        x.generic(1);
        int never = methodWith(x, 0, 1, 0, -4, false);
        int neverEither = methodWith(x, 0, 3, 0, 0, false);
        x.atom(neverEither, 3, 0, 5, true);
        int even = methodWith(x, 0, 3, 0, 0, false);
        Due.yes("what never holds is beyond what may", x.beyond(never, even));
        Due.no("but not the other way round", x.beyond(even, never));
        Due.no("nor beyond what never holds", x.beyond(never, neverEither));
        Due.is("it is never chosen", even, () -> x.best(0, 4, 0));
        Due.is("nor where nothing else is", -1, () -> x.best(0, 5, 0));
    }

    private static void beyondOfTwoArguments() {
        DispatchDesk x = new DispatchDesk();
        x.klass(0);
        x.generic(2);
        int below = methodWith(x, 0, 4, 0, 0, false);
        int firstLowest = methodWith(x, 0, 2, 0, -4, false);
        x.atom(firstLowest, 2, 1, -4, true);
        int same = methodWith(x, 0, 5, 0, 0, false);
        int bothOne = methodWith(x, 0, 0, 0, 1, false);
        x.atom(bothOne, 0, 1, 1, false);
        Due.yes("-4 and not -4, below", x.beyond(firstLowest, below));
        Due.no("below, -4 and not -4", x.beyond(below, firstLowest));
        Due.yes("both class 1, same class", x.beyond(bothOne, same));
        Due.no("same class, both class 1", x.beyond(same, bothOne));
    }

    private static void beyondGrowsWithClasses() {
        DispatchDesk x = new DispatchDesk();
        x.klass(0);
        x.generic(2);
        int both = methodWith(x, 0, 0, 0, 1, false);
        x.atom(both, 0, 1, 1, false);
        int same = methodWith(x, 0, 5, 0, 0, false);
        Due.yes("class 1 has no other class below it", x.beyond(both, same));
        x.klass(1);
        Due.no("now it has", x.beyond(both, same));
    }

    private static void wrongMethods() {
        DispatchDesk x = new DispatchDesk();
        x.generic(1);
        x.generic(1);
        x.method(0);
        x.method(1);
        Due.fails("beyond(-1, 0)", Due.ARGUMENT, () -> x.beyond(-1, 0) ? 1 : 0);
        Due.fails("beyond(0, 2)", Due.ARGUMENT, () -> x.beyond(0, 2) ? 1 : 0);
        Due.fails("of different generics", Due.ARGUMENT, () -> x.beyond(0, 1) ? 1 : 0);
        Due.is("of itself", 0, () -> x.beyond(1, 1) ? 1 : 0);
    }

    private static void bestOfOneArgument() {
        DispatchDesk x = new DispatchDesk();
        x.klass(0);
        x.generic(1);
        Due.is("no methods", -1, () -> x.best(0, 0, 0));
        int one = methodWith(x, 0, 0, 0, 1, false);
        int even = methodWith(x, 0, 3, 0, 0, false);
        Due.is("class 0 with -3", -1, () -> x.best(0, 1, 0));
        Due.is("class 0 with -4", even, () -> x.best(0, 0, 0));
        Due.is("class 1 with -3", one, () -> x.best(0, 9, 0));
        Due.is("class 1 with -4", -2, () -> x.best(0, 8, 0));
        int both = methodWith(x, 0, 0, 0, 1, false);
        x.atom(both, 3, 0, 0, false);
        Due.is("both conditions together", both, () -> x.best(0, 8, 0));
        Due.is("b is of no matter", both, () -> x.best(0, 8, -1000));
    }

    private static void bestOfTwoArguments() {
        DispatchDesk x = new DispatchDesk();
        x.klass(0);
        x.generic(2);
        int first = methodWith(x, 0, 0, 0, 1, false);
        int second = methodWith(x, 0, 0, 1, 1, false);
        Due.is("1, 0", first, () -> x.best(0, 8, 0));
        Due.is("0, 1", second, () -> x.best(0, 0, 8));
        Due.is("1, 1", -2, () -> x.best(0, 8, 8));
        Due.is("0, 0", -1, () -> x.best(0, 0, 0));
    }

    private static void wrongRows() {
        DispatchDesk x = new DispatchDesk();
        x.generic(1);
        x.generic(2);
        Due.fails("generic -1", Due.ARGUMENT, () -> x.best(-1, 0, 0));
        Due.fails("generic 2", Due.ARGUMENT, () -> x.best(2, 0, 0));
        Due.fails("a below 0", Due.ARGUMENT, () -> x.best(0, -1, 0));
        Due.fails("a of class 1", Due.ARGUMENT, () -> x.best(0, 8, 0));
        Due.fails("b below 0", Due.ARGUMENT, () -> x.best(1, 0, -1));
        Due.fails("b of class 1", Due.ARGUMENT, () -> x.best(1, 0, 8));
        Due.is("both values are there", -1, () -> x.best(1, 7, 7));
        x.klass(0);
        Due.is("now class 1 is there", -1, () -> x.best(1, 15, 15));
    }

    private static void everyKindOfAtom() {
        int[][] atoms = {{0, 1, 1}, {1, 1, 2}, {2, 1, -2}, {3, 1, 0}, {4, 0, 0}, {5, 0, 0}};
        for (int[] atom : atoms) {
            for (int negated = 0; negated < 2; negated++) {
                DispatchDesk x = new DispatchDesk();
                x.klass(0);
                x.generic(2);
                methodWith(x, 0, atom[0], atom[1], atom[2], negated == 1);
                for (int row = 0; row < 256; row++) {
                    int a = row / 16;
                    int b = row % 16;
                    boolean holds = holds(atom[0], atom[2], a, b) != (negated == 1);
                    Due.is("kind " + atom[0] + " at " + a + ", " + b, holds ? 0 : -1, () -> x.best(0, a, b));
                }
            }
        }
    }

    private static boolean holds(int kind, int c, int a, int b) {
        int first = a % 8 - 4;
        int second = b % 8 - 4;
        switch (kind) {
            case 0: return b / 8 == c;
            case 1: return second < c;
            case 2: return second == c;
            case 3: return second % 2 == 0;
            case 4: return first < second;
            default: return a / 8 == b / 8;
        }
    }

    private static void checkFindsTheFirstRow() {
        DispatchDesk x = new DispatchDesk();
        x.klass(0);
        x.generic(2);
        Due.fails("check(-1)", Due.ARGUMENT, () -> x.check(-1));
        Due.fails("check(1)", Due.ARGUMENT, () -> x.check(1));
        Due.is("without methods", 1, () -> x.check(0));
        Due.is("the first row of all", 0, () -> 100L * x.witness(0) + x.witness(1));
        methodWith(x, 0, 5, 0, 0, false);
        Due.is("a gap where the classes differ", 1, () -> x.check(0));
        Due.is("class 0 with -4, class 1 with -4", 8, () -> 100L * x.witness(0) + x.witness(1));
        methodWith(x, 0, 2, 0, -4, false);
        Due.is("ambiguous at the first row", 2, () -> x.check(0));
        Due.is("that is", 0, () -> 100L * x.witness(0) + x.witness(1));
        int both = methodWith(x, 0, 2, 0, -4, false);
        x.atom(both, 5, 0, 0, false);
        Due.is("a gap behind that", 1, () -> x.check(0));
        Due.is("class 0 with -3, class 1 with -4", 108, () -> 100L * x.witness(0) + x.witness(1));
        Due.fails("argument 2", Due.NO_ELEMENT, () -> x.witness(2));
        Due.fails("argument -1", Due.NO_ELEMENT, () -> x.witness(-1));
        x.method(0);
        Due.is("each row has one", 0, () -> x.check(0));
        Due.fails("then there is no witness", Due.NO_ELEMENT, () -> x.witness(0));
    }

    private static void witnessGoesWithChanges() {
        DispatchDesk x = new DispatchDesk();
        x.generic(1);
        x.generic(1);
        x.method(1);
        x.check(0);
        Due.is("a witness", 0, () -> x.witness(0));
        Due.fails("argument 1 of one", Due.NO_ELEMENT, () -> x.witness(1));
        x.generic(2);
        x.operation(0, 2, 0);
        x.compile(0);
        x.run(1, 0, 0, 5);
        Due.fails("a class that does not come", Due.ARGUMENT, () -> x.klass(4));
        Due.fails("a method that does not come", Due.ARGUMENT, () -> x.method(4));
        Due.fails("an atom that does not come", Due.ARGUMENT, () -> x.atom(0, 4, 0, 0, false));
        Due.fails("a check of no generic", Due.ARGUMENT, () -> x.check(3));
        Due.is("it stays", 0, () -> x.witness(0));
        x.atom(0, 3, 0, 0, false);
        Due.fails("an atom of another generic came", Due.NO_ELEMENT, () -> x.witness(0));
        x.check(0);
        x.method(1);
        Due.fails("a method of another generic came", Due.NO_ELEMENT, () -> x.witness(0));
        x.check(0);
        x.klass(0);
        Due.fails("a class came", Due.NO_ELEMENT, () -> x.witness(0));
    }

    private static void witnessIsOfTheLatestCheck() {
        DispatchDesk x = new DispatchDesk();
        x.generic(2);
        x.generic(1);
        x.generic(1);
        x.method(1);
        methodWith(x, 2, 1, 0, 2, false);
        x.check(0);
        x.check(2);
        Due.is("the first row of generic 2", 6, () -> x.witness(0));
        Due.fails("which has one argument", Due.NO_ELEMENT, () -> x.witness(1));
        x.check(1);
        Due.fails("generic 1 has no such row", Due.NO_ELEMENT, () -> x.witness(0));
    }
}
