/** The sentences of promises 1 to 6 that name a boundary or a refused call, each with a test of its own. */
public final class EdgesOfBuildingTest {
    private static final int[] FAR = {0, -1, 7, Integer.MIN_VALUE, Integer.MAX_VALUE};

    public static void main(String[] args) {
        aNewObject();
        klassAnswersItsNumber();
        klassUndoesWhatWasCompiled();
        klassWithoutSuchAParent();
        klassWhenThereAre8();
        genericAnswersItsNumber();
        genericLeavesWhatWasCompiled();
        genericOfOtherArguments();
        genericWhenThereAre4();
        methodIsEmpty();
        methodUndoesWhatWasCompiledOfItsGeneric();
        methodWithoutSuchAGeneric();
        methodWhenThereAre12();
        atomAnswersHowMany();
        atomUndoesWhatWasCompiledOfItsGeneric();
        atomWithoutSuchAMethod();
        atomOfNoSuchKind();
        atomOfNoSuchArgument();
        atomOfNoSuchNumber();
        atomOfNoSuchClass();
        atomWhenItHas4();
        operationAnswersHowMany();
        operationLeavesWhatWasCompiled();
        operationWithoutSuchAMethod();
        operationOfNoSuchKind();
        operationOfNoSuchNumber();
        operationOfNoSuchClassOrGeneric();
        operationWhoseNIsOfNoMatter();
        operationWhenItHas8();
        Due.end();
    }

    /** Two generics with a method each, both compiled. */
    private static DispatchDesk compiled() {
        DispatchDesk x = Make.flat(2);
        for (int g = 0; g < 2; g++) {
            x.generic(2);
            Make.method(x, g, "even 1");
            x.compile(g);
        }
        return x;
    }

    private static void dueCompiled(DispatchDesk x, int generic) {
        Due.is("generic " + generic + " has its graph", 0, () -> x.node(generic, 2, 0));
        Due.is("generic " + generic + " has its tests", 3, () -> x.test(generic, 0, 0));
    }

    private static void dueUndone(DispatchDesk x, int generic) {
        Due.fails("generic " + generic + " has no graph", Due.STATE, () -> x.node(generic, 0, 0));
        Due.fails("generic " + generic + " has no tests", Due.STATE, () -> x.test(generic, 0, 0));
    }

    private static void aNewObject() {
        Due.sentence("Class 0 alone; no generics, no methods.");
        DispatchDesk x = new DispatchDesk();
        Due.fails("best", Due.ARGUMENT, () -> x.best(0, 0, 0));
        Due.fails("check", Due.ARGUMENT, () -> x.check(0));
        Due.fails("compile", Due.ARGUMENT, () -> x.compile(0));
        Due.fails("node", Due.ARGUMENT, () -> x.node(0, 0, 0));
        Due.fails("test", Due.ARGUMENT, () -> x.test(0, 0, 0));
        Due.fails("run", Due.ARGUMENT, () -> x.run(0, 0, 0, 0));
        Due.fails("method", Due.ARGUMENT, () -> x.method(0));
        Due.fails("beyond", Due.ARGUMENT, () -> x.beyond(0, 0) ? 1 : 0);
        Due.fails("atom", Due.ARGUMENT, () -> Make.atom(x, 0, "even 0"));
        Due.fails("operation", Due.ARGUMENT, () -> x.operation(0, 2, 0));
        Due.fails("class 1 as a parent", Due.ARGUMENT, () -> x.klass(1));
        Due.is("the first generic", 0, () -> x.generic(1));
        Due.is("class 0 has its highest value", -1, () -> x.best(0, 7, 0));
        Due.fails("class 1 has no value", Due.ARGUMENT, () -> x.best(0, 8, 0));
        Due.is("the first method", 0, () -> x.method(0));
        Due.is("the first class behind class 0", 1, () -> x.klass(0));
    }

    private static void klassAnswersItsNumber() {
        Due.sentence("One more class: its number.");
        DispatchDesk x = new DispatchDesk();
        x.generic(2);
        for (int c = 1; c < 8; c++) {
            int made = c;
            Due.fails("no value of it yet", Due.ARGUMENT, () -> x.best(0, 0, Make.value(made, -4)));
            Due.is("class " + c, c, () -> x.klass(0));
            Due.is("its lowest value", -1, () -> x.best(0, Make.value(made, -4), 0));
            Due.is("its highest value", -1, () -> x.best(0, 0, Make.value(made, 3)));
        }
    }

    private static void klassUndoesWhatWasCompiled() {
        Due.sentence("What was compiled goes.");
        DispatchDesk x = new DispatchDesk();
        for (int g = 0; g < 4; g++) {
            x.generic(1 + g % 2);
            x.compile(g);
        }
        x.klass(0);
        for (int g = 0; g < 4; g++) {
            dueUndone(x, g);
        }
        Due.is("it can be compiled again", 1, () -> x.compile(3));
    }

    private static void klassWithoutSuchAParent() {
        Due.sentence("klass: IllegalArgumentException: there is no such parent");
        DispatchDesk x = compiled();
        Due.failsForEach("parent", Due.ARGUMENT, Due.outside(0, 1), n -> x.klass(n));
        dueCompiled(x, 0);
        dueCompiled(x, 1);
        Due.is("no class came", 2, () -> x.klass(1));
    }

    private static void klassWhenThereAre8() {
        Due.sentence("klass: IllegalStateException: there are 8.");
        DispatchDesk x = Make.chain(8);
        x.generic(2);
        Make.method(x, 0, "even 1");
        x.compile(0);
        Due.fails("with the lowest parent", Due.STATE, () -> x.klass(0));
        Due.fails("with the highest parent", Due.STATE, () -> x.klass(7));
        Due.failsForEach("with none", Due.ARGUMENT, Due.outside(0, 7), n -> x.klass(n));
        dueCompiled(x, 0);
        Due.fails("no class came", Due.ARGUMENT, () -> x.best(0, 64, 0));
    }

    private static void genericAnswersItsNumber() {
        Due.sentence("One more generic: its number.");
        DispatchDesk x = new DispatchDesk();
        for (int g = 0; g < 4; g++) {
            int made = g;
            Due.fails("not yet", Due.ARGUMENT, () -> x.check(made));
            Due.is("generic " + g, g, () -> x.generic(2 - made % 2));
            Due.is("it has no method", -1, () -> x.best(made, 0, 0));
        }
    }

    private static void genericLeavesWhatWasCompiled() {
        Due.sentence("One more generic");
        DispatchDesk x = compiled();
        x.check(1);
        x.generic(1);
        dueCompiled(x, 0);
        dueCompiled(x, 1);
        dueUndone(x, 2);
        Due.is("and the witness", Make.value(0, -3), () -> x.witness(1));
    }

    private static void genericOfOtherArguments() {
        Due.sentence("generic: IllegalArgumentException: it does not take 1 or 2 arguments");
        DispatchDesk x = new DispatchDesk();
        Due.failsForEach("arguments", Due.ARGUMENT, Due.outside(1, 2), n -> x.generic(n));
        Due.is("no generic came", 0, () -> x.generic(1));
    }

    private static void genericWhenThereAre4() {
        Due.sentence("generic: IllegalStateException: there are 4.");
        DispatchDesk x = compiled();
        x.generic(1);
        x.generic(1);
        Due.fails("one argument", Due.STATE, () -> x.generic(1));
        Due.fails("two arguments", Due.STATE, () -> x.generic(2));
        Due.failsForEach("arguments", Due.ARGUMENT, Due.outside(1, 2), n -> x.generic(n));
        Due.fails("no generic came", Due.ARGUMENT, () -> x.check(4));
        dueCompiled(x, 0);
        dueCompiled(x, 1);
    }

    private static void methodIsEmpty() {
        Due.sentence("One more method of a generic, with an empty condition and body: its number.");
        DispatchDesk x = Make.flat(8);
        x.generic(2);
        Due.is("the first", 0, () -> x.method(0));
        Due.is("its condition holds for all rows", 0, () -> x.check(0));
        Due.is("its body answers the first argument", 63, () -> x.run(0, 63, 5, 1));
        Due.is("its first atom", 1, () -> Make.atom(x, 0, "even 0"));
        Due.is("its first operation", 1, () -> x.operation(0, 0, 0));
        Due.is("the second", 1, () -> x.method(0));
        Due.is("has no atom of the first", 1, () -> x.best(0, Make.value(0, 1), 0));
        Due.is("and no operation", Make.value(0, 1), () -> x.run(0, Make.value(0, 1), 0, 1));
    }

    private static void methodUndoesWhatWasCompiledOfItsGeneric() {
        Due.sentence("method: What was compiled of the generic goes.");
        DispatchDesk x = compiled();
        x.method(1);
        dueCompiled(x, 0);
        dueUndone(x, 1);
    }

    private static void methodWithoutSuchAGeneric() {
        Due.sentence("method: IllegalArgumentException: there is no such generic");
        DispatchDesk x = compiled();
        Due.failsForEach("generic", Due.ARGUMENT, Due.outside(0, 1), n -> x.method(n));
        dueCompiled(x, 0);
        dueCompiled(x, 1);
        Due.is("no method came", 2, () -> x.method(0));
    }

    private static void methodWhenThereAre12() {
        Due.sentence("method: IllegalStateException: there are 12.");
        DispatchDesk x = compiled();
        x.generic(1);
        for (int m = 2; m < 12; m++) {
            x.method(2);
        }
        Due.fails("of a generic that has many", Due.STATE, () -> x.method(2));
        Due.fails("of a generic that has one", Due.STATE, () -> x.method(0));
        Due.failsForEach("of generic", Due.ARGUMENT, Due.outside(0, 2), n -> x.method(n));
        dueCompiled(x, 0);
        Due.fails("no method came", Due.ARGUMENT, () -> x.operation(12, 2, 0));
    }

    private static void atomAnswersHowMany() {
        Due.sentence("One more atom of a method's condition: how many it has.");
        DispatchDesk x = compiled();
        for (int k = 2; k <= 4; k++) {
            Due.is("atom " + k, k, () -> Make.atom(x, 0, "even 1"));
        }
        Due.is("of another method", 2, () -> Make.atom(x, 1, "even 1"));
    }

    private static void atomUndoesWhatWasCompiledOfItsGeneric() {
        Due.sentence("atom: What was compiled of its generic goes.");
        DispatchDesk x = compiled();
        Make.atom(x, 1, "even 1");
        dueCompiled(x, 0);
        dueUndone(x, 1);
    }

    private static void atomWithoutSuchAMethod() {
        Due.sentence("atom: IllegalArgumentException: there is no such method");
        DispatchDesk x = compiled();
        Due.failsForEach("method", Due.ARGUMENT, Due.outside(0, 1), n -> x.atom(n, 3, 0, 0, false));
        dueOneAtom(x);
    }

    private static void atomOfNoSuchKind() {
        Due.sentence("atom: IllegalArgumentException: .. kind are not so");
        DispatchDesk x = compiled();
        Due.failsForEach("kind", Due.ARGUMENT, Due.outside(0, 5), n -> x.atom(0, n, 0, 0, true));
        dueOneAtom(x);
    }

    private static void atomOfNoSuchArgument() {
        Due.sentence("atom: IllegalArgumentException: .. i .. are not so");
        DispatchDesk x = compiled();
        x.generic(1);
        int ofOne = x.method(2);
        for (int kind = 0; kind < 4; kind++) {
            int asked = kind;
            Due.failsForEach("of two", Due.ARGUMENT, Due.outside(0, 1), n -> x.atom(0, asked, n, 0, false));
            Due.failsForEach("of one", Due.ARGUMENT, Due.outside(0, 0), n -> x.atom(ofOne, asked, n, 0, false));
        }
        Due.is("argument 0 of one", 1, () -> x.atom(ofOne, 3, 0, 0, false));
        dueOneAtom(x);
    }

    private static void atomOfNoSuchNumber() {
        Due.sentence("atom: IllegalArgumentException: .. x .. are not so");
        DispatchDesk x = compiled();
        Due.failsForEach("below", Due.ARGUMENT, Due.outside(-4, 4), n -> x.atom(0, 1, 0, n, false));
        Due.failsForEach("is", Due.ARGUMENT, Due.outside(-4, 3), n -> x.atom(0, 2, 1, n, true));
        dueOneAtom(x);
        Due.is("below 4", 1, () -> x.atom(x.method(0), 1, 1, 4, false));
        Due.is("below -4", 1, () -> x.atom(x.method(0), 1, 0, -4, false));
        Due.is("is 3", 1, () -> x.atom(x.method(0), 2, 0, 3, false));
        Due.is("is -4", 1, () -> x.atom(x.method(0), 2, 1, -4, false));
    }

    private static void atomOfNoSuchClass() {
        Due.sentence("atom: IllegalArgumentException: .. (a class must be there)");
        DispatchDesk x = compiled();
        Due.failsForEach("class", Due.ARGUMENT, Due.outside(0, 1), n -> x.atom(0, 0, 0, n, false));
        dueOneAtom(x);
        x.klass(1);
        Due.is("now class 2 is there", 3, () -> x.atom(0, 0, 0, 2, false));
        Due.fails("class 3 is not", Due.ARGUMENT, () -> x.atom(0, 0, 0, 3, false));
    }

    /** What was refused added nothing and undid nothing. */
    private static void dueOneAtom(DispatchDesk x) {
        dueCompiled(x, 0);
        dueCompiled(x, 1);
        Due.is("no atom came", 2, () -> Make.atom(x, 0, "even 1"));
    }

    private static void atomWhenItHas4() {
        Due.sentence("atom: IllegalStateException: it has 4.");
        DispatchDesk x = compiled();
        for (int k = 0; k < 3; k++) {
            Make.atom(x, 0, "even 1");
        }
        x.compile(0);
        Due.fails("one that it has", Due.STATE, () -> Make.atom(x, 0, "even 1"));
        Due.fails("one that it has not", Due.STATE, () -> Make.atom(x, 0, "not is 0 2"));
        Due.fails("one that is none", Due.ARGUMENT, () -> Make.atom(x, 0, "is 2 2"));
        dueCompiled(x, 0);
        Due.fails("no test came", Due.NO_ELEMENT, () -> x.test(0, 1, 0));
        Due.is("its condition is as before", 0, () -> x.best(0, Make.value(0, 2), 0));
        Due.is("another method has room", 2, () -> Make.atom(x, 1, "even 1"));
    }

    private static void operationAnswersHowMany() {
        Due.sentence("One more operation of a method's body: how many it has.");
        DispatchDesk x = compiled();
        for (int k = 1; k <= 8; k++) {
            int due = k;
            Due.is("operation " + k, k, () -> x.operation(0, due % 2, 0));
        }
        Due.is("of another method", 1, () -> x.operation(1, 0, 0));
    }

    private static void operationLeavesWhatWasCompiled() {
        Due.sentence("operation: (what was compiled stays)");
        DispatchDesk x = compiled();
        x.check(1);
        x.operation(0, 0, 3);
        x.operation(1, 0, 3);
        dueCompiled(x, 0);
        dueCompiled(x, 1);
        Due.is("and so does the witness", Make.value(0, -3), () -> x.witness(1));
        Due.is("the body is run by the graph", Make.value(0, 3), () -> x.run(0, 0, 0, 2));
        Due.is("by one test", 1, x::tests);
    }

    private static void operationWithoutSuchAMethod() {
        Due.sentence("operation: IllegalArgumentException: there is no such method");
        DispatchDesk x = compiled();
        Due.failsForEach("method", Due.ARGUMENT, Due.outside(0, 1), n -> x.operation(n, 0, 0));
        dueNoOperation(x);
    }

    private static void operationOfNoSuchKind() {
        Due.sentence("operation: IllegalArgumentException: there is no such .. operation");
        DispatchDesk x = compiled();
        Due.failsForEach("kind", Due.ARGUMENT, Due.outside(0, 6), n -> x.operation(0, n, 0));
        dueNoOperation(x);
    }

    private static void operationOfNoSuchNumber() {
        Due.sentence("operation: IllegalArgumentException: .. n is not so");
        DispatchDesk x = compiled();
        x.generic(1);
        int ofOne = x.method(2);
        Due.failsForEach("NUMBER", Due.ARGUMENT, Due.outside(-4, 3), n -> x.operation(0, 0, n));
        Due.failsForEach("ARGUMENT of two", Due.ARGUMENT, Due.outside(0, 1), n -> x.operation(0, 1, n));
        Due.failsForEach("ARGUMENT of one", Due.ARGUMENT, Due.outside(0, 0), n -> x.operation(ofOne, 1, n));
        dueNoOperation(x);
        Due.is("NUMBER -4", 2, () -> x.operation(0, 0, -4));
        Due.is("NUMBER 3", 3, () -> x.operation(0, 0, 3));
        Due.is("ARGUMENT 1 of two", 4, () -> x.operation(0, 1, 1));
        Due.is("ARGUMENT 0 of one", 1, () -> x.operation(ofOne, 1, 0));
    }

    private static void operationOfNoSuchClassOrGeneric() {
        Due.sentence("operation: IllegalArgumentException: .. (a class or generic must be there");
        DispatchDesk x = compiled();
        Due.failsForEach("CLASS", Due.ARGUMENT, Due.outside(0, 1), n -> x.operation(0, 4, n));
        Due.failsForEach("CALL", Due.ARGUMENT, Due.outside(0, 1), n -> x.operation(0, 5, n));
        dueNoOperation(x);
        x.klass(0);
        x.generic(1);
        Due.is("CLASS 2, now that it is there", 2, () -> x.operation(0, 4, 2));
        Due.is("CALL 2, now that it is there", 3, () -> x.operation(0, 5, 2));
        Due.is("CLASS 0", 4, () -> x.operation(0, 4, 0));
        Due.is("CALL 0", 5, () -> x.operation(0, 5, 0));
    }

    private static void operationWhoseNIsOfNoMatter() {
        Due.sentence("operation: for 2, 3 and 6 it is of no matter");
        for (int kind : new int[] {2, 3, 6}) {
            DispatchDesk x = compiled();
            for (int k = 0; k < FAR.length; k++) {
                int n = FAR[k];
                Due.is("kind " + kind + " with " + n, k + 1, () -> x.operation(0, kind, n));
            }
        }
        DispatchDesk x = Make.desk(1, "NUMBER 3, NUMBER 3, ADD 9, ARGUMENT 0, MULTIPLY -9");
        Due.is("it is done all the same", Make.value(0, 2), () -> x.run(0, Make.value(1, -1), 0, 6));
    }

    /** What was refused added nothing and undid nothing. */
    private static void dueNoOperation(DispatchDesk x) {
        dueCompiled(x, 0);
        dueCompiled(x, 1);
        Due.is("no operation came", 1, () -> x.operation(0, 2, 0));
    }

    private static void operationWhenItHas8() {
        Due.sentence("operation: IllegalStateException: it has 8.");
        DispatchDesk x = Make.desk(1, "NUMBER 0, NUMBER 1, ADD, NUMBER 1, ADD, NUMBER 1, ADD, CLASS 1");
        for (int kind = 0; kind < 7; kind++) {
            int ninth = kind;
            Due.fails("a ninth, kind " + kind, Due.STATE, () -> x.operation(0, ninth, 0));
        }
        Due.fails("a ninth that is none", Due.ARGUMENT, () -> x.operation(0, 7, 0));
        Due.fails("a ninth whose n is not so", Due.ARGUMENT, () -> x.operation(0, 0, 4));
        Due.is("its body is as before", Make.value(1, 3), () -> x.run(0, 0, 0, 9));
        Due.is("eight operations and a call", 0, x::left);
    }
}
