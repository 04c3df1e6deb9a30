/** Promises 1 to 6: a new object, klass, generic, method, atom, operation. */
public final class BuildingTest {
    public static void main(String[] args) {
        newObject();
        classes();
        classesUndoWhatWasCompiled();
        generics();
        methods();
        methodsUndoWhatWasCompiled();
        atomsOfOneArgument();
        atomsOfTwoArguments();
        atomsAreCounted();
        atomsUndoWhatWasCompiled();
        operations();
        operationsLeaveWhatWasCompiled();
        Due.end();
    }

    private static void newObject() {
        DispatchDesk x = new DispatchDesk();
        Due.is("left of a new object", 0, x::left);
        Due.is("tests of a new object", 0, x::tests);
        Due.fails("witness of a new object", Due.NO_ELEMENT, () -> x.witness(0));
        Due.fails("check without a generic", Due.ARGUMENT, () -> x.check(0));
        Due.fails("method without a generic", Due.ARGUMENT, () -> x.method(0));
        Due.fails("atom without a method", Due.ARGUMENT, () -> x.atom(0, 3, 0, 0, false));
        Due.fails("operation without a method", Due.ARGUMENT, () -> x.operation(0, 2, 0));
        Due.fails("class 1 is not there", Due.ARGUMENT, () -> x.klass(1));
        Due.is("the first class that comes", 1, () -> x.klass(0));
    }

    private static void classes() {
        DispatchDesk x = new DispatchDesk();
        Due.fails("klass(-1)", Due.ARGUMENT, () -> x.klass(-1));
        Due.is("klass(0)", 1, () -> x.klass(0));
        Due.fails("klass(2) is its own parent", Due.ARGUMENT, () -> x.klass(2));
        for (int c = 2; c < 8; c++) {
            int parent = c - 1;
            Due.is("klass " + c, c, () -> x.klass(parent));
        }
        Due.fails("a ninth class", Due.STATE, () -> x.klass(7));
        Due.fails("a ninth class of no parent", Due.ARGUMENT, () -> x.klass(8));
        x.generic(1);
        Due.is("the last value", -1, () -> x.best(0, 63, 0));
        Due.fails("behind the last value", Due.ARGUMENT, () -> x.best(0, 64, 0));
    }

    private static void classesUndoWhatWasCompiled() {
        DispatchDesk x = new DispatchDesk();
        x.generic(1);
        x.generic(2);
        x.compile(0);
        x.compile(1);
        Due.fails("no such parent", Due.ARGUMENT, () -> x.klass(5));
        Due.is("a class that did not come undoes nothing", -1, () -> x.node(0, 0, 0));
        x.klass(0);
        Due.fails("node behind klass", Due.STATE, () -> x.node(0, 0, 0));
        Due.fails("test of another generic behind klass", Due.STATE, () -> x.test(1, 0, 0));
    }

    private static void generics() {
        DispatchDesk x = new DispatchDesk();
        Due.fails("generic(0)", Due.ARGUMENT, () -> x.generic(0));
        Due.fails("generic(3)", Due.ARGUMENT, () -> x.generic(3));
        Due.fails("generic(-1)", Due.ARGUMENT, () -> x.generic(-1));
        for (int g = 0; g < 4; g++) {
            int arguments = 1 + g % 2;
            Due.is("generic " + g, g, () -> x.generic(arguments));
        }
        Due.fails("a fifth generic", Due.STATE, () -> x.generic(1));
        Due.fails("a fifth generic of 3 arguments", Due.ARGUMENT, () -> x.generic(3));
    }

    private static void methods() {
        DispatchDesk x = new DispatchDesk();
        x.generic(1);
        x.generic(2);
        Due.fails("method(-1)", Due.ARGUMENT, () -> x.method(-1));
        Due.fails("method(2)", Due.ARGUMENT, () -> x.method(2));
        for (int m = 0; m < 12; m++) {
            int generic = m % 2;
            Due.is("method " + m, m, () -> x.method(generic));
        }
        Due.fails("a thirteenth method", Due.STATE, () -> x.method(1));
        Due.fails("a thirteenth method of no generic", Due.ARGUMENT, () -> x.method(2));
        Due.is("a body that is empty answers the first argument", 2, () -> run(x));
    }

    /** A method without a condition is applicable to all, so a generic of one such is complete. */
    private static long run(DispatchDesk full) {
        DispatchDesk x = new DispatchDesk();
        x.generic(2);
        x.method(0);
        return full.best(1, 2, 5) == -2 ? x.run(0, 2, 5, 1) : -9;
    }

    private static void methodsUndoWhatWasCompiled() {
        DispatchDesk x = new DispatchDesk();
        x.generic(1);
        x.generic(1);
        x.compile(0);
        x.compile(1);
        x.method(1);
        Due.is("a method of another generic", -1, () -> x.node(0, 0, 0));
        Due.fails("a method of this generic", Due.STATE, () -> x.node(1, 0, 0));
    }

    private static void atomsOfOneArgument() {
        DispatchDesk x = new DispatchDesk();
        x.generic(1);
        for (int m = 0; m < 3; m++) {
            x.method(0);
        }
        Due.fails("kind -1", Due.ARGUMENT, () -> x.atom(0, -1, 0, 0, false));
        Due.fails("kind 6", Due.ARGUMENT, () -> x.atom(0, 6, 0, 0, false));
        Due.fails("method -1", Due.ARGUMENT, () -> x.atom(-1, 3, 0, 0, false));
        Due.fails("method 3", Due.ARGUMENT, () -> x.atom(3, 3, 0, 0, false));
        for (int kind = 0; kind < 4; kind++) {
            int k = kind;
            Due.fails("argument 1 of one, kind " + kind, Due.ARGUMENT, () -> x.atom(0, k, 1, 0, false));
            Due.fails("argument -1, kind " + kind, Due.ARGUMENT, () -> x.atom(0, k, -1, 0, false));
        }
        Due.fails("kind 4 of one argument", Due.ARGUMENT, () -> x.atom(0, 4, 0, 0, false));
        Due.fails("kind 5 of one argument", Due.ARGUMENT, () -> x.atom(0, 5, 0, 0, true));
        Due.fails("class 1 is not there", Due.ARGUMENT, () -> x.atom(0, 0, 0, 1, false));
        Due.fails("class -1", Due.ARGUMENT, () -> x.atom(0, 0, 0, -1, false));
        Due.fails("below -5", Due.ARGUMENT, () -> x.atom(0, 1, 0, -5, false));
        Due.fails("below 5", Due.ARGUMENT, () -> x.atom(0, 1, 0, 5, false));
        Due.fails("is -5", Due.ARGUMENT, () -> x.atom(0, 2, 0, -5, false));
        Due.fails("is 4", Due.ARGUMENT, () -> x.atom(0, 2, 0, 4, false));
        Due.is("below -4", 1, () -> x.atom(0, 1, 0, -4, true));
        Due.is("below 4", 2, () -> x.atom(0, 1, 0, 4, false));
        Due.is("is -4", 1, () -> x.atom(1, 2, 0, -4, false));
        Due.is("is 3", 2, () -> x.atom(1, 2, 0, 3, true));
        Due.is("even, with x far off", 1, () -> x.atom(2, 3, 0, Integer.MIN_VALUE, false));
        Due.is("class 0", 2, () -> x.atom(2, 0, 0, 0, false));
    }

    private static void atomsOfTwoArguments() {
        DispatchDesk x = new DispatchDesk();
        x.generic(2);
        x.method(0);
        Due.fails("argument 2 of two", Due.ARGUMENT, () -> x.atom(0, 3, 2, 0, false));
        Due.is("argument 1 of two", 1, () -> x.atom(0, 3, 1, 0, false));
        Due.is("kind 4 with i and x far off", 2, () -> x.atom(0, 4, 99, -99, false));
        Due.is("kind 5 with i and x far off", 3, () -> x.atom(0, 5, -7, 77, false));
    }

    private static void atomsAreCounted() {
        DispatchDesk x = new DispatchDesk();
        x.generic(1);
        x.method(0);
        for (int n = 1; n <= 4; n++) {
            Due.is("atom " + n, n, () -> x.atom(0, 3, 0, 0, false));
        }
        Due.fails("a fifth atom", Due.STATE, () -> x.atom(0, 3, 0, 0, false));
        Due.fails("a fifth atom that is none", Due.ARGUMENT, () -> x.atom(0, 3, 1, 0, false));
    }

    private static void atomsUndoWhatWasCompiled() {
        DispatchDesk x = new DispatchDesk();
        x.generic(1);
        x.generic(1);
        x.method(0);
        x.compile(0);
        x.compile(1);
        Due.fails("an atom that is none", Due.ARGUMENT, () -> x.atom(0, 9, 0, 0, false));
        Due.is("it undoes nothing", 0, () -> x.node(0, 0, 1));
        x.atom(0, 3, 0, 0, false);
        Due.fails("an atom of this generic", Due.STATE, () -> x.node(0, 0, 1));
        Due.is("an atom of another generic", -1, () -> x.node(1, 0, 1));
    }

    private static void operations() {
        DispatchDesk x = new DispatchDesk();
        x.generic(1);
        x.generic(2);
        x.method(0);
        x.method(1);
        Due.fails("method -1", Due.ARGUMENT, () -> x.operation(-1, 2, 0));
        Due.fails("method 2", Due.ARGUMENT, () -> x.operation(2, 2, 0));
        Due.fails("kind -1", Due.ARGUMENT, () -> x.operation(0, -1, 0));
        Due.fails("kind 7", Due.ARGUMENT, () -> x.operation(0, 7, 0));
        Due.fails("number -5", Due.ARGUMENT, () -> x.operation(0, 0, -5));
        Due.fails("number 4", Due.ARGUMENT, () -> x.operation(0, 0, 4));
        Due.fails("argument -1", Due.ARGUMENT, () -> x.operation(0, 1, -1));
        Due.fails("argument 1 of one", Due.ARGUMENT, () -> x.operation(0, 1, 1));
        Due.fails("argument 2 of two", Due.ARGUMENT, () -> x.operation(1, 1, 2));
        Due.fails("class 1 is not there", Due.ARGUMENT, () -> x.operation(0, 4, 1));
        Due.fails("class -1", Due.ARGUMENT, () -> x.operation(0, 4, -1));
        Due.fails("generic 2 is not there", Due.ARGUMENT, () -> x.operation(0, 5, 2));
        Due.fails("generic -1", Due.ARGUMENT, () -> x.operation(0, 5, -1));
        int[][] good = {{0, -4}, {0, 3}, {1, 1}, {2, 99}, {3, -99}, {4, 0}, {5, 1}, {6, 1 << 30}};
        for (int k = 0; k < good.length; k++) {
            int[] one = good[k];
            Due.is("operation " + one[0] + " " + one[1], k + 1, () -> x.operation(1, one[0], one[1]));
        }
        Due.fails("a ninth operation", Due.STATE, () -> x.operation(1, 2, 0));
        Due.fails("a ninth operation that is none", Due.ARGUMENT, () -> x.operation(1, 7, 0));
    }

    private static void operationsLeaveWhatWasCompiled() {
        DispatchDesk x = new DispatchDesk();
        x.generic(1);
        x.check(0);
        x.method(0);
        x.compile(0);
        x.operation(0, 0, 1);
        Due.is("node behind operation", 0, () -> x.node(0, 0, 1));
        Due.is("the new operation is run", 5, () -> x.run(0, 0, 0, 9));
    }
}
