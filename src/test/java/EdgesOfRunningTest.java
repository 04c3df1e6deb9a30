/**
 * The sentences of 'A BODY' and of promises 14 to 16 that name a boundary or a refused call, each
 * with a test of its own.
 */
public final class EdgesOfRunningTest {
    private static final String SIX_NUMBERS = Make.times(6, "NUMBER 0");
    private static final int LOWEST_OF_7 = Make.value(7, -4);

    public static void main(String[] args) {
        bodiesHaveAtMost8Operations();
        stacksAreEmptyAtFirst();
        stacksAreAtMost6High();
        numbersAreOfClass0();
        argumentsOfTheRow();
        sumsTakeTheTwoOnTop();
        sumsHaveTheLowerOnesClass();
        theTopGetsAClass();
        callsTakeWhatTheGenericTakes();
        resultsThatAreValue0();
        theTopIsTheLastArgument();
        nextIsOfTheSameRow();
        nextIsBeyondAllOthersThatAreSo();
        resultsOfEmptyBodies();
        resultsAreTheTop();
        fuelIs0To200();
        valuesAsForBest();
        endsWithAGap();
        endsWithAnAmbiguity();
        eachOperationCosts1();
        eachCallCosts1More();
        endsWithoutFuel();
        endsTooHigh();
        endsTooHighBehindTheCall();
        endsWithTooLittle();
        endsWithin8Others();
        endsWithin8OthersByNext();
        noFuelIsFirstForAnOperation();
        tooDeepIsFirstForACall();
        noFuelIsBeforeTheChoiceOfACall();
        tooLittleIsBeforeTheCall();
        graphsComeToTheSame();
        runWithoutSuchAGeneric();
        runWithoutSuchAValue();
        runWithoutSuchFuel();
        leftOfTheLatestRun();
        leftWhenThereWasNone();
        testsOfTheLatestRun();
        testsOfCallsInGraphs();
        testsOfWhatEnded();
        Due.end();
    }

    private static void dueRun(DispatchDesk x, int a, int b, int fuel, int result, int left) {
        String what = "run(0, " + a + ", " + b + ", " + fuel + ")";
        Due.is(what, result, () -> x.run(0, a, b, fuel));
        Due.is("left behind " + what, left, x::left);
    }

    /**
     * Generic 0, of one argument, has a method with the first body, generic 1 one with the other;
     * generic 2, of one argument, has none.
     */
    private static DispatchDesk caller(String body, int arguments, String called) {
        DispatchDesk x = Make.flat(2);
        x.generic(1);
        x.generic(arguments);
        x.generic(1);
        Make.method(x, 0, "", body);
        Make.method(x, 1, "", called);
        return x;
    }

    /** A method for all rows with one body, and one for even numbers with another. */
    private static DispatchDesk nexts(String ofAll, String ofEven) {
        DispatchDesk x = Make.desk(1, ofAll);
        Make.method(x, 0, "even 0", ofEven);
        return x;
    }

    private static void bodiesHaveAtMost8Operations() {
        Due.sentence("A BODY is at most 8 OPERATIONS");
        DispatchDesk x = Make.desk(1, "NUMBER 1, NUMBER 1, ADD, NUMBER 1, ADD, NUMBER 1, ADD, CLASS 1");
        dueRun(x, 0, 0, 9, Make.value(1, -4), 0);
        dueRun(x, 0, 0, 8, -3, 0);
    }

    private static void stacksAreEmptyAtFirst() {
        Due.sentence("on a stack of values, empty at first");
        dueRun(Make.desk(2, "ADD"), 4, 4, 9, -4, 7);
        dueRun(caller("NUMBER 1, NUMBER 1, NUMBER 1, CALL 1", 1, "ADD"), 4, 0, 50, -4, 43);
        DispatchDesk twice = caller("NUMBER 1, CALL 1, CALL 1", 1, "NUMBER 2, NUMBER 2");
        Make.method(twice, 1, "even 0", "ADD");
        dueRun(twice, 4, 0, 50, -4, 50 - 1 - 2 - 1 - 2 - 1 - 1 - 1);
        DispatchDesk next = nexts("ADD", "NUMBER 1, NUMBER 1, NEXT");
        dueRun(next, 4, 0, 50, -4, 50 - 1 - 3 - 1 - 1);
    }

    private static void stacksAreAtMost6High() {
        Due.sentence("on a stack of values, .. at most 6 high");
        dueRun(Make.desk(1, SIX_NUMBERS), 7, 0, 9, 4, 2);
        dueRun(Make.desk(1, SIX_NUMBERS + ", NUMBER 1"), 7, 0, 9, -4, 1);
        dueRun(Make.desk(1, SIX_NUMBERS + ", ADD, ARGUMENT 0"), 7, 0, 9, 7, 0);
        dueRun(Make.desk(1, SIX_NUMBERS + ", CLASS 1, ADD"), 7, 0, 9, 4, 0);
    }

    private static void numbersAreOfClass0() {
        Due.sentence("0 NUMBER n (-4 .. 3): class 0 with n.");
        for (int n = -4; n <= 3; n++) {
            dueRun(Make.desk(1, "NUMBER " + n), Make.value(1, 0), 0, 2, Make.value(0, n), 0);
        }
    }

    private static void argumentsOfTheRow() {
        Due.sentence("1 ARGUMENT i.");
        dueRun(Make.desk(2, "NUMBER 0, ARGUMENT 0"), 15, 8, 3, 15, 0);
        dueRun(Make.desk(2, "NUMBER 0, ARGUMENT 1"), 15, 8, 3, 8, 0);
        dueRun(Make.desk(1, "NUMBER 0, ARGUMENT 0"), 15, 8, 3, 15, 0);
    }

    private static void sumsTakeTheTwoOnTop() {
        Due.sentence("2 ADD, 3 MULTIPLY: of the two on top (which go) the sum or product");
        dueRun(Make.desk(1, "NUMBER 3, NUMBER 2, NUMBER -1, ADD"), 0, 0, 5, Make.value(0, 1), 0);
        dueRun(Make.desk(1, "NUMBER 3, NUMBER 2, NUMBER -1, ADD, MULTIPLY"), 0, 0, 6, Make.value(0, 3), 0);
        dueRun(Make.desk(1, "NUMBER 3, NUMBER 2, NUMBER -1, MULTIPLY"), 0, 0, 5, Make.value(0, -2), 0);
        dueRun(Make.desk(1, "NUMBER 3, NUMBER 2, NUMBER -1, MULTIPLY, ADD"), 0, 0, 6, Make.value(0, 1), 0);
        dueRun(Make.desk(1, "NUMBER 3, NUMBER 2, ADD, ADD"), 0, 0, 9, -4, 4);
    }

    private static void sumsHaveTheLowerOnesClass() {
        Due.sentence("the sum or product, with the lower one's class");
        int one = Make.value(1, 3);
        int zero = Make.value(0, 3);
        dueRun(Make.desk(2, "ARGUMENT 0, ARGUMENT 1, ADD"), one, zero, 4, Make.value(1, -2), 0);
        dueRun(Make.desk(2, "ARGUMENT 0, ARGUMENT 1, ADD"), zero, one, 4, Make.value(0, -2), 0);
        dueRun(Make.desk(2, "ARGUMENT 0, ARGUMENT 1, MULTIPLY"), one, zero, 4, Make.value(1, 1), 0);
        dueRun(Make.desk(2, "ARGUMENT 0, ARGUMENT 1, MULTIPLY"), zero, one, 4, Make.value(0, 1), 0);
    }

    private static void theTopGetsAClass() {
        Due.sentence("4 CLASS c: the top gets class c.");
        DispatchDesk x = Make.chain(8);
        x.generic(2);
        Make.method(x, 0, "", "ARGUMENT 1, ARGUMENT 0, CLASS 7");
        dueRun(x, Make.value(0, -4), 0, 4, Make.value(7, -4), 0);
        Make.write(x, 0, "CLASS 0");
        dueRun(x, Make.value(7, 3), 0, 5, Make.value(0, 3), 0);
        Make.write(x, 0, "NUMBER 0, MULTIPLY, ADD");
        dueRun(x, Make.value(7, 3), Make.value(5, 1), 8, Make.value(5, 1), 0);
    }

    private static void callsTakeWhatTheGenericTakes() {
        Due.sentence("5 CALL g: as many values as generic g takes go; its result comes");
        String three = "NUMBER 1, NUMBER 2, NUMBER 3, CALL 1";
        dueRun(caller(three + ", ADD", 1, ""), 0, 0, 7, Make.value(0, -3), 0);
        dueRun(caller(three + ", ADD", 2, ""), 0, 0, 7, Make.value(0, 3), 0);
        dueRun(caller(three + ", ADD, ADD", 1, ""), 0, 0, 9, Make.value(0, -2), 1);
        dueRun(caller(three + ", ADD, ADD", 2, ""), 0, 0, 9, -4, 1);
        dueRun(caller(SIX_NUMBERS + ", CALL 1, NUMBER 1", 2, ""), 0, 0, 10, Make.value(0, 1), 0);
        dueRun(caller(SIX_NUMBERS + ", CALL 1, NUMBER 1", 1, ""), 0, 0, 10, -4, 0);
    }

    private static void resultsThatAreValue0() {
        Due.sentence("the result, as a value (class 0 with -4 is 0, and ends nothing)");
        dueRun(Make.desk(1, "NUMBER -4"), 4, 0, 2, 0, 0);
        dueRun(Make.desk(1, "NUMBER -4, NUMBER 1, ADD"), 4, 0, 4, 1, 0);
        dueRun(Make.desk(1, "ARGUMENT 0, NUMBER 1, ADD"), 0, 0, 4, 1, 0);
        dueRun(Make.desk(1, "NUMBER -4, CLASS 0, NUMBER 1, ADD"), 4, 0, 5, 1, 0);
        dueRun(Make.desk(1, "NUMBER 2, NUMBER 2, MULTIPLY, NUMBER 1, ADD"), 4, 0, 6, 1, 0);
        dueRun(caller("NUMBER -4, CALL 1, NUMBER 1, ADD", 1, ""), 4, 0, 6, 1, 0);
        dueRun(nexts("NUMBER -4", "NEXT, NUMBER 1, ADD"), 4, 0, 6, 1, 0);
    }

    private static void theTopIsTheLastArgument() {
        Due.sentence("(the top is the last argument)");
        dueRun(caller("NUMBER 1, NUMBER 2, CALL 1", 2, "ARGUMENT 0"), 0, 0, 6, Make.value(0, 1), 0);
        dueRun(caller("NUMBER 1, NUMBER 2, CALL 1", 2, "ARGUMENT 1"), 0, 0, 6, Make.value(0, 2), 0);
        dueRun(caller("NUMBER 1, NUMBER 2, CALL 1", 1, "ARGUMENT 0"), 0, 0, 6, Make.value(0, 2), 0);
    }

    private static void nextIsOfTheSameRow() {
        Due.sentence("6 NEXT: the result of the next method for the same row comes");
        DispatchDesk x = Make.flat(2);
        x.generic(2);
        Make.method(x, 0, "", "ARGUMENT 1");
        Make.method(x, 0, "class 0 1", "NUMBER 3, NEXT, ADD");
        dueRun(x, Make.value(1, 0), Make.value(1, 2), 9, Make.value(0, -3), 9 - 1 - 2 - 1 - 1 - 1);
        dueRun(x, Make.value(0, 0), Make.value(1, 2), 9, Make.value(1, 2), 7);
    }

    private static void nextIsBeyondAllOthersThatAreSo() {
        Due.sentence("the one that is applicable, has this one beyond it, and is beyond all others that are so");
        DispatchDesk x = Make.flat(2);
        x.generic(1);
        Make.method(x, 0, "", "NUMBER 0");
        Make.method(x, 0, "below 0 2", "NUMBER 1");
        Make.method(x, 0, "is 0 -4", "NEXT");
        Make.method(x, 0, "below 0 0", "NUMBER 2");
        Make.method(x, 0, "class 0 1, below 0 -1", "NUMBER 3");
        dueRun(x, Make.value(0, -4), 0, 9, Make.value(0, 2), 5);
        Make.method(x, 0, "class 0 1, is 0 -4", "NEXT");
        dueRun(x, Make.value(1, -4), 0, 9, -2, 6);
        Make.method(x, 0, "is 0 -4, class 0 1, even 0, below 0 4", "NUMBER 1");
        Due.is("two that are alike have no best", -2, () -> x.best(0, Make.value(1, -4), 0));
    }

    private static void resultsOfEmptyBodies() {
        Due.sentence("A method's RESULT is .. of an empty body, or an empty stack, the first argument.");
        dueRun(Make.desk(1, ""), 15, 0, 1, 15, 0);
        dueRun(Make.desk(2, ""), 9, 14, 1, 9, 0);
        dueRun(caller("NUMBER 1, NUMBER 2, CALL 1", 2, ""), 15, 0, 5, Make.value(0, 1), 0);
        dueRun(nexts("", "NUMBER 3, NEXT"), 14, 0, 5, 14, 1);
    }

    private static void resultsAreTheTop() {
        Due.sentence("A method's RESULT is the top of its stack at the end");
        dueRun(Make.desk(1, "NUMBER 1, NUMBER 2, NUMBER 3"), 0, 0, 4, Make.value(0, 3), 0);
        dueRun(caller("NUMBER 1, CALL 1, ADD", 1, "NUMBER 1, NUMBER 2, NUMBER 3"), 0, 0, 9, -4, 1);
        dueRun(caller("NUMBER 1, CALL 1", 1, "NUMBER 1, NUMBER -3"), 0, 0, 9, Make.value(0, -3), 3);
    }

    private static void fuelIs0To200() {
        Due.sentence("with so much fuel (0 .. 200)");
        dueRun(Make.desk(1, ""), 5, 0, 0, -3, 0);
        dueRun(Make.desk(1, ""), 5, 0, 1, 5, 0);
        dueRun(Make.desk(1, ""), 5, 0, 200, 5, 199);
        DispatchDesk x = caller("ARGUMENT 0, " + Make.times(7, "CALL 1"), 1, "ARGUMENT 0, " + Make.times(7, "CALL 2"));
        Make.method(x, 2, "", "NUMBER 0, NUMBER 0");
        Due.is("all of it", -3, () -> x.run(0, 5, 0, 200));
        Due.is("is used", 0, x::left);
    }

    private static void valuesAsForBest() {
        Due.sentence("Calls a generic with values (as for best): the result, as a value");
        DispatchDesk x = Make.chain(8);
        x.generic(1);
        x.generic(2);
        x.method(0);
        Make.method(x, 1, "", "ARGUMENT 1");
        for (int value : new int[] {0, 7, 8, 55, 56, 63}) {
            Due.is("the one argument " + value, value, () -> x.run(0, value, 0, 1));
            Due.is("the second argument " + value, value, () -> x.run(1, 0, value, 2));
        }
        for (int b : new int[] {-1, 64, Integer.MIN_VALUE, Integer.MAX_VALUE}) {
            Due.is("b is of no matter for one argument: " + b, 63, () -> x.run(0, 63, b, 1));
        }
    }

    private static void endsWithAGap() {
        Due.sentence("-1 a call (the first one, those of CALL and NEXT) that has a gap");
        DispatchDesk first = Make.flat(2);
        first.generic(1);
        dueRun(first, 0, 0, 9, -1, 8);
        DispatchDesk call = caller("NUMBER 1, CALL 2", 1, "");
        dueRun(call, 0, 0, 9, -1, 5);
        dueRun(Make.desk(1, "NEXT"), 0, 0, 9, -1, 6);
        dueRun(nexts("NEXT", "NEXT"), 4, 0, 9, -1, 4);
    }

    private static void endsWithAnAmbiguity() {
        Due.sentence("-2 an ambiguity");
        DispatchDesk first = Make.desk(1, "");
        first.method(0);
        dueRun(first, 0, 0, 9, -2, 8);
        DispatchDesk call = caller("NUMBER 1, CALL 1", 1, "");
        call.method(1);
        dueRun(call, 0, 0, 9, -2, 5);
        DispatchDesk next = nexts("", "NEXT");
        next.method(0);
        dueRun(next, 4, 0, 9, -2, 6);
    }

    private static void eachOperationCosts1() {
        Due.sentence("(each operation costs 1)");
        String[] bodies = {"NUMBER 0", "ARGUMENT 0", "NUMBER 0, NUMBER 0, ADD", "NUMBER 0, NUMBER 0, MULTIPLY",
            "NUMBER 0, CLASS 0"};
        for (String body : bodies) {
            int cost = 1 + body.split(", ").length;
            dueRun(Make.desk(1, body), 4, 0, cost, 4, 0);
            dueRun(Make.desk(1, body), 4, 0, cost - 1, -3, 0);
        }
    }

    private static void eachCallCosts1More() {
        Due.sentence("(.. and each call 1 more)");
        dueRun(Make.desk(1, ""), 4, 0, 1, 4, 0);
        DispatchDesk call = caller("NUMBER 0, CALL 1", 1, "");
        dueRun(call, 4, 0, 4, 4, 0);
        dueRun(call, 4, 0, 3, -3, 0);
        DispatchDesk next = nexts("", "NEXT");
        dueRun(next, 4, 0, 3, 4, 0);
        dueRun(next, 4, 0, 2, -3, 0);
    }

    private static void endsWithoutFuel() {
        Due.sentence("-3 no fuel");
        DispatchDesk x = caller("NUMBER 0, CALL 1, NUMBER 1, ADD", 1, "NUMBER 2, NUMBER 1, ADD");
        for (int fuel = 0; fuel < 9; fuel++) {
            dueRun(x, 4, 0, fuel, -3, 0);
        }
        dueRun(x, 4, 0, 9, Make.value(0, -4), 0);
        dueRun(x, 4, 0, 10, Make.value(0, -4), 1);
    }

    private static void endsTooHigh() {
        Due.sentence("-4 a stack that would be too high");
        dueRun(Make.desk(1, SIX_NUMBERS + ", NUMBER 0, ADD"), 4, 0, 20, -4, 12);
        dueRun(Make.desk(1, SIX_NUMBERS + ", ARGUMENT 0, ADD"), 4, 0, 20, -4, 12);
        dueRun(nexts("", SIX_NUMBERS + ", NEXT, ADD"), 4, 0, 20, -4, 11);
        dueRun(nexts("", Make.times(5, "NUMBER 0") + ", NEXT"), 4, 0, 20, 4, 12);
    }

    private static void endsTooHighBehindTheCall() {
        Due.sentence("(for CALL and NEXT with their result, behind what ends the call itself)");
        String full = SIX_NUMBERS + ", NEXT";
        dueRun(Make.desk(1, full), 4, 0, 20, -1, 11);
        DispatchDesk ambiguous = nexts("", full);
        ambiguous.method(0);
        dueRun(ambiguous, 4, 0, 20, -2, 11);
        dueRun(nexts("", full), 4, 0, 8, -3, 0);
        dueRun(nexts("NUMBER 0", full), 4, 0, 9, -3, 0);
        dueRun(nexts("NUMBER 0", full), 4, 0, 10, -4, 0);
        dueRun(nexts("NUMBER 0, NUMBER 0, CLASS 0, ADD, ADD", full), 4, 0, 20, -4, 6);
        DispatchDesk deep = chainOfNexts(full);
        dueRun(deep, LOWEST_OF_7, 0, 200, -5, 200 - 7 * 2 - 1 - 7);
        dueRun(deep, LOWEST_OF_7 + 1, 0, 200, -4, 200 - 6 * 2 - 1 - 7 - 1);
        dueRun(caller(SIX_NUMBERS + ", CALL 1", 1, "NUMBER 3"), 4, 0, 20, 7, 10);
    }

    /**
     * For class 7 eight methods are each beyond the one before, for even numbers nine; all but the
     * first go to the next one, the second by the body that is given.
     */
    private static DispatchDesk chainOfNexts(String second) {
        DispatchDesk x = Make.chain(8);
        x.generic(1);
        x.method(0);
        for (int c = 1; c < 8; c++) {
            Make.method(x, 0, "class 0 " + c, c == 1 ? second : "NEXT");
        }
        Make.method(x, 0, "class 0 7, even 0", "NEXT");
        return x;
    }

    private static void endsWithTooLittle() {
        Due.sentence("-4 a stack that .. has too little");
        String[] bodies = {"ADD", "MULTIPLY", "CLASS 0", "CALL 1", "CALL 2",
            "NUMBER 0, ADD", "NUMBER 0, MULTIPLY", "NUMBER 0, CALL 2"};
        for (String body : bodies) {
            DispatchDesk x = Make.flat(2);
            x.generic(1);
            x.generic(1);
            x.generic(2);
            Make.method(x, 0, "", body);
            x.method(1);
            x.method(2);
            dueRun(x, 4, 0, 9, -4, 8 - body.split(", ").length);
        }
        dueRun(caller("NUMBER 0, CALL 1", 1, ""), 4, 0, 9, 4, 5);
        dueRun(caller("NUMBER 0, NUMBER 0, CALL 1", 2, ""), 4, 0, 9, 4, 4);
    }

    private static void endsWithin8Others() {
        Due.sentence("-5 a call within 8 others");
        DispatchDesk endless = Make.desk(1, "ARGUMENT 0, CALL 0");
        dueRun(endless, 4, 0, 200, -5, 200 - 8 * 3);
        DispatchDesk down = caller("ARGUMENT 0, NUMBER -1, ADD, CALL 0", 1, "ARGUMENT 0, CALL 0");
        Make.method(down, 0, "is 0 -4", "");
        dueRun(down, Make.value(1, 3), 0, 200, Make.value(1, -4), 200 - 7 * 5 - 1);
        Due.is("within 7 others", Make.value(1, -4), () -> down.run(1, Make.value(1, 2), 0, 200));
        Due.is("left", 200 - 3 - 6 * 5 - 1, down::left);
        Due.is("within 8 others", -5, () -> down.run(1, Make.value(1, 3), 0, 200));
        Due.is("left", 200 - 3 - 7 * 5, down::left);
    }

    private static void endsWithin8OthersByNext() {
        Due.sentence("-5 a call (.. of NEXT) within 8 others");
        DispatchDesk x = chainOfNexts("NEXT");
        dueRun(x, LOWEST_OF_7 + 1, 0, 200, LOWEST_OF_7 + 1, 200 - 7 * 2 - 1);
        dueRun(x, LOWEST_OF_7, 0, 200, -5, 200 - 8 * 2);
        dueRun(x, Make.value(6, -4), 0, 200, Make.value(6, -4), 200 - 6 * 2 - 1);
    }

    private static void noFuelIsFirstForAnOperation() {
        Due.sentence("(-3 before the others for an operation)");
        dueRun(Make.desk(1, "ADD"), 4, 0, 1, -3, 0);
        dueRun(Make.desk(1, "ADD"), 4, 0, 2, -4, 0);
        dueRun(Make.desk(1, "CLASS 0"), 4, 0, 1, -3, 0);
        dueRun(Make.desk(1, "CALL 0"), 4, 0, 1, -3, 0);
        dueRun(Make.desk(1, "CALL 0"), 4, 0, 2, -4, 0);
        dueRun(Make.desk(1, SIX_NUMBERS + ", NUMBER 0"), 4, 0, 7, -3, 0);
        dueRun(Make.desk(1, SIX_NUMBERS + ", NUMBER 0"), 4, 0, 8, -4, 0);
        dueRun(Make.desk(1, "NEXT"), 4, 0, 1, -3, 0);
        dueRun(Make.desk(1, "ARGUMENT 0, CALL 0"), 4, 0, 8 * 3 - 1, -3, 0);
        dueRun(chainOfNexts("NEXT"), LOWEST_OF_7, 0, 8 * 2 - 1, -3, 0);
    }

    private static void tooDeepIsFirstForACall() {
        Due.sentence("(.. -5, then -3 for a call)");
        dueRun(Make.desk(1, "ARGUMENT 0, CALL 0"), 4, 0, 8 * 3, -5, 0);
        dueRun(chainOfNexts("NEXT"), LOWEST_OF_7, 0, 8 * 2, -5, 0);
    }

    private static void noFuelIsBeforeTheChoiceOfACall() {
        Due.sentence("-5, then -3 for a call");
        DispatchDesk gap = Make.flat(2);
        gap.generic(1);
        dueRun(gap, 4, 0, 0, -3, 0);
        dueRun(gap, 4, 0, 1, -1, 0);
        DispatchDesk ambiguous = Make.desk(1, "");
        ambiguous.method(0);
        dueRun(ambiguous, 4, 0, 0, -3, 0);
        dueRun(ambiguous, 4, 0, 1, -2, 0);
        dueRun(Make.desk(1, "NEXT"), 4, 0, 2, -3, 0);
        dueRun(Make.desk(1, "NEXT"), 4, 0, 3, -1, 0);
    }

    /** A call whose arguments are not there is never made, so it is neither too deep nor costs fuel. */
    private static void tooLittleIsBeforeTheCall() {
        Due.sentence("-4 a stack that .. has too little");
        dueRun(Make.desk(1, "CALL 0"), 4, 0, 9, -4, 7);
        dueRun(chainOfNexts("CALL 0"), LOWEST_OF_7, 0, 200, -4, 200 - 8 * 2);
    }

    private static void graphsComeToTheSame() {
        Due.sentence("Calls but those of NEXT go by the graphs, where a generic has one; they come to the same.");
        DispatchDesk plain = mixed();
        DispatchDesk compiled = mixed();
        compiled.compile(0);
        DispatchDesk bothCompiled = mixed();
        bothCompiled.compile(0);
        bothCompiled.compile(1);
        boolean[] seen = new boolean[6];
        for (int k = 0; k < 48; k++) {
            int a = k / 2;
            int fuel = k % 2 == 0 ? 60 : 7;
            int due = plain.run(0, a, 0, fuel);
            int left = plain.left();
            seen[due < 0 ? -due : 0] = true;
            dueRun(compiled, a, 0, fuel, due, left);
            dueRun(bothCompiled, a, 0, fuel, due, left);
        }
        for (int end = 0; end < 6; end++) {
            Due.yes("a run that ends with " + -end, seen[end]);
        }
    }

    /** Its runs come to results and to all that can end them. */
    private static DispatchDesk mixed() {
        DispatchDesk x = Make.flat(3);
        x.generic(1);
        x.generic(2);
        Make.method(x, 0, "class 0 1", "ARGUMENT 0, NUMBER -1, ADD, CALL 0");
        Make.method(x, 0, "class 0 1, even 0", "NEXT");
        Make.method(x, 0, "class 0 2", "ARGUMENT 0, NUMBER -1, CALL 1");
        Make.method(x, 0, "not class 0 1, not class 0 2, below 0 2", "ARGUMENT 0, CALL 0, ARGUMENT 0, CALL 0, ADD");
        Make.method(x, 0, "not class 0 1, not class 0 2, is 0 -4", "ARGUMENT 0, ADD");
        Make.method(x, 1, "less", "ARGUMENT 0");
        Make.method(x, 1, "not class 1 2, not even 0", "ARGUMENT 1");
        Make.method(x, 1, "less, not even 0", "NEXT");
        Make.method(x, 1, "is 0 2", "ARGUMENT 0, CLASS 1, CALL 0, NUMBER 1");
        return x;
    }

    private static void runWithoutSuchAGeneric() {
        Due.sentence("run: IllegalArgumentException: no such generic");
        DispatchDesk x = caller("", 2, "");
        Due.failsForEach("generic", Due.ARGUMENT, Due.outside(0, 2), n -> x.run(n, 0, 0, 9));
    }

    private static void runWithoutSuchAValue() {
        Due.sentence("run: IllegalArgumentException: no such .. value");
        DispatchDesk x = caller("", 2, "");
        Due.failsForEach("a of one", Due.ARGUMENT, Due.outside(0, 15), n -> x.run(0, n, 0, 9));
        Due.failsForEach("a of two", Due.ARGUMENT, Due.outside(0, 15), n -> x.run(1, n, 0, 9));
        Due.failsForEach("b of two", Due.ARGUMENT, Due.outside(0, 15), n -> x.run(1, 0, n, 9));
        Due.is("the highest values", 15, () -> x.run(1, 15, 15, 9));
    }

    private static void runWithoutSuchFuel() {
        Due.sentence("run: IllegalArgumentException: no such .. fuel");
        DispatchDesk x = caller("", 2, "");
        Due.failsForEach("fuel", Due.ARGUMENT, Due.outside(0, 200), n -> x.run(0, 0, 0, n));
    }

    private static void leftOfTheLatestRun() {
        Due.sentence("How much fuel the latest run left");
        DispatchDesk x = Make.desk(1, "NUMBER 0");
        dueRun(x, 0, 0, 200, 4, 198);
        dueRun(x, 0, 0, 2, 4, 0);
        dueRun(x, 0, 0, 3, 4, 1);
        Due.failsForEach("a run that is refused", Due.ARGUMENT, Due.outside(0, 200), n -> x.run(0, 0, 0, n));
        Due.is("left behind it", 1, x::left);
        x.klass(0);
        x.method(0);
        x.compile(0);
        x.check(0);
        x.best(0, 0, 0);
        Due.is("left behind other calls", 1, x::left);
        dueRun(x, 0, 0, 9, -2, 8);
        Due.is("asked again", 8, x::left);
    }

    private static void leftWhenThereWasNone() {
        Due.sentence("left: 0 when there was none");
        DispatchDesk x = new DispatchDesk();
        Due.is("a new object", 0, x::left);
        x.generic(1);
        Due.fails("a run that is refused", Due.ARGUMENT, () -> x.run(0, 8, 0, 9));
        Due.is("left behind it", 0, x::left);
    }

    private static void testsOfTheLatestRun() {
        Due.sentence("How many tests the latest run's calls passed through");
        DispatchDesk x = nexts("NUMBER 1", "NUMBER 2");
        Due.is("no run", 0, x::tests);
        x.compile(0);
        Due.is("no run behind compile", 0, x::tests);
        x.run(0, 4, 0, 9);
        Due.is("one that passes", 1, x::tests);
        x.run(0, 5, 0, 9);
        Due.is("one that does not", 1, x::tests);
        Due.fails("a run that is refused", Due.ARGUMENT, () -> x.run(0, 16, 0, 9));
        Due.is("tests behind it", 1, x::tests);
        x.klass(0);
        Due.is("behind a class", 1, x::tests);
        x.run(0, 4, 0, 9);
        Due.is("a run without a graph", 0, x::tests);
    }

    private static void testsOfCallsInGraphs() {
        Due.sentence("tests: .. calls passed through in graphs");
        DispatchDesk leaf = Make.desk(1, "");
        leaf.compile(0);
        leaf.run(0, 4, 0, 9);
        Due.is("a graph of a leaf", 0, leaf::tests);
        DispatchDesk same = Make.desk(1, "");
        Make.method(same, 0, "below 0 0, not below 0 0");
        Make.method(same, 0, "even 0");
        same.compile(0);
        same.run(0, 4, 0, 9);
        Due.is("a test whose sides are the same is passed through, too", 2, same::tests);
        DispatchDesk next = nexts("NUMBER 1", "NEXT");
        next.compile(0);
        next.run(0, 4, 0, 9);
        Due.is("a call of NEXT goes by no graph", 1, next::tests);
        DispatchDesk two = caller("ARGUMENT 0, CALL 1, CALL 1", 1, "NUMBER 2");
        Make.method(two, 1, "class 0 1, even 0", "NUMBER 1");
        two.compile(1);
        two.run(0, Make.value(1, 0), 0, 20);
        Due.is("two tests for class 1, then one for class 0", 3, two::tests);
        Make.method(two, 0, "even 0, not even 0");
        Make.method(two, 0, "is 0 2");
        two.compile(0);
        two.run(0, Make.value(1, 0), 0, 20);
        Due.is("and two of the first call", 5, two::tests);
    }

    private static void testsOfWhatEnded() {
        Due.sentence("How many tests the latest run's calls passed through in graphs.");
        DispatchDesk x = Make.flat(2);
        x.generic(1);
        Make.method(x, 0, "even 0", "ARGUMENT 0, CALL 0");
        x.compile(0);
        Due.is("a gap", -1, () -> x.run(0, 5, 0, 9));
        Due.is("is found by a test", 1, x::tests);
        Due.is("no fuel for the first call", -3, () -> x.run(0, 4, 0, 0));
        Due.is("no test", 0, x::tests);
        Due.is("no fuel for the second call", -3, () -> x.run(0, 4, 0, 3));
        Due.is("one test", 1, x::tests);
        Due.is("too deep", -5, () -> x.run(0, 4, 0, 200));
        Due.is("a test for each of 8 calls", 8, x::tests);
    }
}
