/** The sentences of promises 7 to 10 that name a boundary or a refused call, each with a test of its own. */
public final class EdgesOfChoosingTest {
    public static void main(String[] args) {
        beyondWithoutSuchAMethod();
        beyondOfDifferentGenerics();
        beyondBehindChanges();
        bestIsAGap();
        bestIsAmbiguous();
        bestBehindChanges();
        valuesOfEveryClass();
        theSecondValueOfOneArgument();
        bestWithoutSuchAGeneric();
        bestWithoutSuchAValue();
        checkIs0();
        checkIs1();
        checkIs2();
        checkOfTheFirstRowAlone();
        checkWithoutSuchAGeneric();
        witnessOfTheFirstRow();
        witnessWhenEachRowHasOne();
        witnessWhenNoneWasChecked();
        witnessWhenSomethingCameSince();
        witnessWhenNothingCameSince();
        witnessOfTheLatestCheck();
        witnessWithoutSuchAnArgument();
        Due.end();
    }

    private static long beyond(DispatchDesk x, int a, int b) {
        return x.beyond(a, b) ? 1 : 0;
    }

    private static void beyondWithoutSuchAMethod() {
        Due.sentence("beyond: IllegalArgumentException: there is no such method");
        DispatchDesk x = new DispatchDesk();
        x.generic(1);
        Due.fails("none at all", Due.ARGUMENT, () -> beyond(x, 0, 0));
        for (int m = 0; m < 12; m++) {
            x.method(0);
        }
        Due.failsForEach("the one", Due.ARGUMENT, Due.outside(0, 11), n -> beyond(x, n, 0));
        Due.failsForEach("the other", Due.ARGUMENT, Due.outside(0, 11), n -> beyond(x, 11, n));
        Due.failsForEach("both", Due.ARGUMENT, Due.outside(0, 11), n -> beyond(x, n, n));
        Due.is("the first and the last", 0, () -> beyond(x, 0, 11));
    }

    private static void beyondOfDifferentGenerics() {
        Due.sentence("beyond: IllegalArgumentException: .. they are of different generics");
        DispatchDesk x = new DispatchDesk();
        for (int g = 0; g < 4; g++) {
            x.generic(1);
            x.method(g);
        }
        for (int g = 0; g < 4; g++) {
            for (int other = 0; other < 4; other++) {
                int a = g;
                int b = other;
                if (g == other) {
                    Due.is("method " + g + " and itself", 0, () -> beyond(x, a, b));
                } else {
                    Due.fails("methods " + g + " and " + other, Due.ARGUMENT, () -> beyond(x, a, b));
                }
            }
        }
    }

    private static void beyondBehindChanges() {
        Due.sentence("Whether a method is beyond another one.");
        DispatchDesk x = new DispatchDesk();
        x.generic(1);
        x.method(0);
        x.method(0);
        Due.is("both are empty", 0, () -> beyond(x, 1, 0));
        Make.atom(x, 1, "class 0 0");
        Due.is("an atom that always holds", 0, () -> beyond(x, 1, 0));
        Make.atom(x, 1, "below 0 3");
        Due.is("an atom that does not", 1, () -> beyond(x, 1, 0));
        Make.atom(x, 0, "below 0 2");
        Due.is("the other has a narrower one", 0, () -> beyond(x, 1, 0));
        Due.is("so that is beyond it", 1, () -> beyond(x, 0, 1));
        int ofClass0 = Make.method(x, 0, "class 0 0, below 0 2");
        Due.is("alike while class 0 is alone", 0, () -> beyond(x, ofClass0, 0));
        x.klass(0);
        Due.is("class 1 is class 0, too", 0, () -> beyond(x, ofClass0, 0));
        int butClass1 = Make.method(x, 0, "not class 0 1, below 0 2");
        Due.is("but not the other way round", 1, () -> beyond(x, butClass1, 0));
    }

    private static void bestIsAGap() {
        Due.sentence("The best method for a row; -1 a gap");
        DispatchDesk x = Make.flat(8);
        x.generic(2);
        Due.is("no methods, the first row", -1, () -> x.best(0, 0, 0));
        Due.is("no methods, the last row", -1, () -> x.best(0, 63, 63));
        Make.method(x, 0, "less, same");
        Due.is("one atom holds", -1, () -> x.best(0, Make.value(1, 0), Make.value(2, 1)));
        Due.is("the other holds", -1, () -> x.best(0, Make.value(7, 3), Make.value(7, 3)));
        Due.is("both hold", 0, () -> x.best(0, Make.value(7, -4), Make.value(7, -3)));
    }

    private static void bestIsAmbiguous() {
        Due.sentence("The best method for a row; .. -2 ambiguous");
        DispatchDesk x = Make.flat(8);
        x.generic(2);
        Make.method(x, 0, "class 0 7");
        Make.method(x, 0, "class 1 7");
        Due.is("the last row", -2, () -> x.best(0, 63, 63));
        Due.is("the one", 0, () -> x.best(0, 63, 55));
        Due.is("the other", 1, () -> x.best(0, 55, 63));
        Due.is("none", -1, () -> x.best(0, 55, 55));
    }

    /** An atom that comes to an early method gives other numbers to the tests of later ones. */
    private static void bestBehindChanges() {
        Due.sentence("The best method for a row");
        DispatchDesk x = Make.flat(2);
        x.generic(2);
        x.method(0);
        int odd = Make.method(x, 0, "not even 0");
        int lowest = Make.method(x, 0, "is 0 -4, is 1 -4");
        Due.is("odd", odd, () -> x.best(0, 1, 0));
        Due.is("the first row", lowest, () -> x.best(0, 0, 0));
        Make.atom(x, 0, "below 0 3");
        Make.atom(x, 0, "class 1 0");
        Due.is("odd and below 3", -2, () -> x.best(0, 1, 0));
        Due.is("odd and 3", odd, () -> x.best(0, 7, 0));
        Due.is("even", 0, () -> x.best(0, 2, 0));
        Due.is("the first row again", lowest, () -> x.best(0, 0, 0));
        Make.atom(x, 0, "class 1 1");
        Due.is("even, and class 1 for the second", 0, () -> x.best(0, 2, 8));
        Due.is("even, but class 0 for the second", -1, () -> x.best(0, 2, 7));
        Due.is("the first row, where one is left", lowest, () -> x.best(0, 0, 0));
        Due.is("the second lowest", -1, () -> x.best(0, 0, 1));
    }

    private static void valuesOfEveryClass() {
        Due.sentence("Values are 8 * class + number + 4");
        DispatchDesk x = Make.flat(8);
        x.generic(1);
        for (int c = 1; c < 8; c++) {
            Make.method(x, 0, "class 0 " + c);
        }
        int three = Make.method(x, 0, "not class 0 1, not class 0 7, is 0 3");
        Due.is("class 0 with -4", -1, () -> x.best(0, 0, 0));
        Due.is("class 0 with 3", three, () -> x.best(0, 7, 0));
        Due.is("class 1 with -4", 0, () -> x.best(0, 8, 0));
        Due.is("class 1 with 3", 0, () -> x.best(0, 15, 0));
        Due.is("class 2 with -4", 1, () -> x.best(0, 16, 0));
        Due.is("class 2 with 3", -2, () -> x.best(0, 23, 0));
        Due.is("class 7 with -4", 6, () -> x.best(0, 56, 0));
        Due.is("class 7 with 3", 6, () -> x.best(0, 63, 0));
    }

    private static void theSecondValueOfOneArgument() {
        Due.sentence("b is of no matter for one argument");
        DispatchDesk x = Make.desk(1, "");
        for (int b : new int[] {0, -1, 15, 16, Integer.MIN_VALUE, Integer.MAX_VALUE}) {
            Due.is("best with b " + b, 0, () -> x.best(0, 15, b));
        }
    }

    private static void bestWithoutSuchAGeneric() {
        Due.sentence("best: IllegalArgumentException: there is no such generic");
        DispatchDesk x = Make.desk(2, "");
        x.generic(1);
        Due.failsForEach("generic", Due.ARGUMENT, Due.outside(0, 1), n -> x.best(n, 0, 0));
    }

    private static void bestWithoutSuchAValue() {
        Due.sentence("best: IllegalArgumentException: .. a value is none");
        DispatchDesk x = Make.desk(2, "");
        x.generic(1);
        Due.failsForEach("a of two", Due.ARGUMENT, Due.outside(0, 15), n -> x.best(0, n, 0));
        Due.failsForEach("b of two", Due.ARGUMENT, Due.outside(0, 15), n -> x.best(0, 0, n));
        Due.failsForEach("a of one", Due.ARGUMENT, Due.outside(0, 15), n -> x.best(1, n, 0));
        Due.is("the highest values", 0, () -> x.best(0, 15, 15));
    }

    private static void checkIs0() {
        Due.sentence("0 when each row has a best method");
        DispatchDesk x = new DispatchDesk();
        x.generic(2);
        Make.method(x, 0, "less");
        Make.method(x, 0, "not less");
        Due.is("two that share the rows", 0, () -> x.check(0));
        Make.method(x, 0, "less, even 0");
        Due.is("and one beyond one of them", 0, () -> x.check(0));
        Make.method(x, 0, "below 0 -4");
        Due.is("and one that never holds", 0, () -> x.check(0));
        Make.method(x, 0, "not below 0 4");
        Due.is("and one more of these", 0, () -> x.check(0));
    }

    private static void checkIs1() {
        Due.sentence("1 when the first row that has none has a gap there");
        DispatchDesk x = Make.flat(8);
        x.generic(1);
        Due.is("no methods", 1, () -> x.check(0));
        Make.method(x, 0, "not is 0 3");
        Due.is("a gap in each class", 1, () -> x.check(0));
        Due.is("the first", Make.value(0, 3), () -> x.witness(0));
        Make.method(x, 0, "is 0 3, not class 0 7");
        Due.is("in the last value alone", 1, () -> x.check(0));
        Due.is("that is", 63, () -> x.witness(0));
    }

    private static void checkIs2() {
        Due.sentence("2 when it is ambiguous there");
        DispatchDesk x = Make.flat(8);
        x.generic(1);
        x.method(0);
        Make.method(x, 0, "class 0 7, is 0 3");
        Due.is("one beyond the other", 0, () -> x.check(0));
        Make.method(x, 0, "class 0 7, not below 0 3");
        Due.is("two alike at the last value", 2, () -> x.check(0));
        Due.is("that is", 63, () -> x.witness(0));
        Make.method(x, 0, "");
        Due.is("two alike at the first value", 2, () -> x.check(0));
        Due.is("that is", 0, () -> x.witness(0));
    }

    private static void checkOfTheFirstRowAlone() {
        Due.sentence("when the first row that has none has a gap there, .. ambiguous there");
        DispatchDesk gapFirst = new DispatchDesk();
        gapFirst.generic(1);
        Make.method(gapFirst, 0, "not is 0 -4");
        Make.method(gapFirst, 0, "not below 0 -3, below 0 4");
        Due.is("a gap, then ambiguities", 1, () -> gapFirst.check(0));
        DispatchDesk ambiguousFirst = new DispatchDesk();
        ambiguousFirst.generic(1);
        Make.method(ambiguousFirst, 0, "is 0 -4");
        Make.method(ambiguousFirst, 0, "below 0 -3");
        Due.is("an ambiguity, then gaps", 2, () -> ambiguousFirst.check(0));
        Due.is("at the first value", 0, () -> ambiguousFirst.witness(0));
    }

    private static void checkWithoutSuchAGeneric() {
        Due.sentence("check: IllegalArgumentException: there is no such generic.");
        DispatchDesk x = new DispatchDesk();
        x.generic(2);
        x.generic(1);
        x.check(0);
        Due.failsForEach("generic", Due.ARGUMENT, Due.outside(0, 1), n -> x.check(n));
        Due.is("the generic that was checked last is the same", 0, () -> x.witness(1));
    }

    private static void witnessOfTheFirstRow() {
        Due.sentence("Argument i (as a value) of the first row");
        DispatchDesk x = Make.flat(8);
        x.generic(2);
        Make.method(x, 0, "not class 0 5");
        Make.method(x, 0, "class 0 5, below 0 2");
        Make.method(x, 0, "class 0 5, not below 0 2, not class 1 6");
        Make.method(x, 0, "class 0 5, not below 0 2, class 1 6, not is 1 1");
        Due.is("check", 1, () -> x.check(0));
        Due.is("argument 0", Make.value(5, 2), () -> x.witness(0));
        Due.is("argument 1", Make.value(6, 1), () -> x.witness(1));
        Due.is("as best has it", -1, () -> x.best(0, x.witness(0), x.witness(1)));
    }

    private static void witnessWhenEachRowHasOne() {
        Due.sentence("witness: NoSuchElementException: it had one for each row");
        DispatchDesk x = Make.desk(2, "");
        x.generic(2);
        x.check(1);
        Due.is("generic 1 has none", 0, () -> x.witness(0));
        x.check(0);
        dueNoWitness(x, "generic 0 has one for each row");
    }

    private static void dueNoWitness(DispatchDesk x, String why) {
        Due.failsForEach(why + ": argument", Due.NO_ELEMENT, new int[] {0, 1}, n -> x.witness(n));
    }

    private static void witnessWhenNoneWasChecked() {
        Due.sentence("witness: NoSuchElementException: .. none was checked");
        DispatchDesk x = new DispatchDesk();
        dueNoWitness(x, "a new object");
        x.generic(2);
        x.best(0, 0, 0);
        x.compile(0);
        x.run(0, 0, 0, 9);
        dueNoWitness(x, "best, compile, run");
    }

    private static void witnessWhenSomethingCameSince() {
        Due.sentence("witness: NoSuchElementException: (or a class, method or atom, of any generic, came since)");
        DispatchDesk x = Make.flat(2);
        for (int g = 0; g < 4; g++) {
            x.generic(2);
            Make.method(x, g, "even 0");
        }
        for (int g = 0; g < 4; g++) {
            x.check(1);
            x.method(g);
            dueNoWitness(x, "a method of generic " + g);
            x.method(g);
            x.check(1);
            Make.atom(x, g, "even 0");
            dueNoWitness(x, "an atom of generic " + g);
        }
        x.check(1);
        x.klass(1);
        dueNoWitness(x, "a class");
        Due.is("a new check", 2, () -> x.check(1));
        Due.is("brings it back", Make.value(0, -3), () -> x.witness(0));
    }

    private static void witnessWhenNothingCameSince() {
        Due.sentence("witness: (or a class, method or atom .. came since)");
        DispatchDesk x = Make.chain(8);
        x.generic(2);
        Make.method(x, 0, "class 0 0, class 0 0, even 0, class 0 0");
        x.check(0);
        Due.fails("a class is refused", Due.STATE, () -> x.klass(0));
        Due.fails("a method is refused", Due.ARGUMENT, () -> x.method(1));
        Due.fails("an atom is refused", Due.STATE, () -> Make.atom(x, 0, "even 0"));
        Due.fails("an atom that is none", Due.ARGUMENT, () -> Make.atom(x, 0, "even 2"));
        x.generic(1);
        x.operation(0, 0, 0);
        x.best(0, 0, 0);
        x.compile(0);
        x.compile(1);
        x.run(1, 0, 0, 1);
        x.beyond(0, 0);
        Due.is("argument 0", Make.value(0, -3), () -> x.witness(0));
        Due.is("argument 1", Make.value(0, -4), () -> x.witness(1));
    }

    private static void witnessOfTheLatestCheck() {
        Due.sentence("the generic that was checked last");
        DispatchDesk x = new DispatchDesk();
        x.generic(2);
        x.generic(1);
        Make.method(x, 0, "not is 1 2");
        Make.method(x, 1, "not is 0 1");
        x.check(1);
        x.check(0);
        Due.is("generic 0", Make.value(0, 2), () -> x.witness(1));
        x.check(1);
        Due.is("generic 1", Make.value(0, 1), () -> x.witness(0));
        Due.fails("has no second argument", Due.NO_ELEMENT, () -> x.witness(1));
    }

    private static void witnessWithoutSuchAnArgument() {
        Due.sentence("witness: NoSuchElementException: .. there is no such argument.");
        DispatchDesk x = new DispatchDesk();
        x.generic(1);
        x.generic(2);
        x.check(0);
        Due.failsForEach("of one", Due.NO_ELEMENT, Due.outside(0, 0), n -> x.witness(n));
        Due.is("argument 0 of one", 0, () -> x.witness(0));
        x.check(1);
        Due.failsForEach("of two", Due.NO_ELEMENT, Due.outside(0, 1), n -> x.witness(n));
        Due.is("argument 1 of two", 0, () -> x.witness(1));
    }
}
