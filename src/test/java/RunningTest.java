/** Promises 14 to 16: run, left, tests. */
public final class RunningTest {
    private static final int NUMBER = 0;
    private static final int ARGUMENT = 1;
    private static final int ADD = 2;
    private static final int MULTIPLY = 3;
    private static final int CLASS = 4;
    private static final int CALL = 5;
    private static final int NEXT = 6;

    public static void main(String[] args) {
        asTheReadmeTells();
        wrongRuns();
        results();
        arithmetic();
        classesOfResults();
        callsTakeTheirArguments();
        callsOfOneArgument();
        nextMethods();
        gapsAndAmbiguities();
        gapsAndAmbiguitiesOfNext();
        fuelOfOperations();
        fuelOfCalls();
        tooHigh();
        tooHighIsBehindTheCall();
        tooLittle();
        tooDeep();
        tooDeepBeforeFuel();
        leftIsOfTheLatestRun();
        testsAreCounted();
        graphsComeToTheSame();
        Due.end();
    }

    /** A desk of class 0 and 1 with one generic and a method for all rows with this body. */
    private static DispatchDesk desk(int arguments, int... body) {
        DispatchDesk x = new DispatchDesk();
        x.klass(0);
        x.generic(arguments);
        x.method(0);
        write(x, 0, body);
        return x;
    }

    /** Adds operations, given as kind, n, kind, n and so on. */
    private static void write(DispatchDesk x, int method, int... body) {
        for (int k = 0; k < body.length; k += 2) {
            x.operation(method, body[k], body[k + 1]);
        }
    }

    private static void dueRun(DispatchDesk x, int a, int b, int fuel, int result, int left) {
        String what = "run(0, " + a + ", " + b + ", " + fuel + ")";
        Due.is(what, result, () -> x.run(0, a, b, fuel));
        Due.is("left behind " + what, left, x::left);
    }

    private static void asTheReadmeTells() {
        DispatchDesk desk = new DispatchDesk();
        int point = desk.klass(0);
        int area = desk.generic(1);
        int any = desk.method(area);
        int forPoints = desk.method(area);
        desk.atom(forPoints, 0, 0, point, false);
        write(desk, any, ARGUMENT, 0);
        write(desk, forPoints, NEXT, 0, NUMBER, 1, ADD, 0);
        Due.is("check", 0, () -> desk.check(area));
        Due.is("compile", 3, () -> desk.compile(area));
        dueRun(desk, 12, 0, 50, 13, 44);
        Due.is("tests", 1, desk::tests);
    }

    private static void wrongRuns() {
        DispatchDesk x = desk(2);
        Due.fails("generic -1", Due.ARGUMENT, () -> x.run(-1, 0, 0, 5));
        Due.fails("generic 1", Due.ARGUMENT, () -> x.run(1, 0, 0, 5));
        Due.fails("a of class 2", Due.ARGUMENT, () -> x.run(0, 16, 0, 5));
        Due.fails("a below 0", Due.ARGUMENT, () -> x.run(0, -1, 0, 5));
        Due.fails("b of class 2", Due.ARGUMENT, () -> x.run(0, 0, 16, 5));
        Due.fails("b below 0", Due.ARGUMENT, () -> x.run(0, 0, -1, 5));
        Due.fails("fuel -1", Due.ARGUMENT, () -> x.run(0, 0, 0, -1));
        Due.fails("fuel 201", Due.ARGUMENT, () -> x.run(0, 0, 0, 201));
        dueRun(x, 15, 15, 200, 15, 199);
        dueRun(x, 0, 0, 0, -3, 0);
        DispatchDesk one = desk(1);
        dueRun(one, 3, 1000, 1, 3, 0);
    }

    private static void results() {
        dueRun(desk(2), 9, 3, 9, 9, 8);
        dueRun(desk(2, ARGUMENT, 1), 9, 3, 9, 3, 7);
        dueRun(desk(2, ARGUMENT, 1, ARGUMENT, 0), 9, 3, 9, 9, 6);
        dueRun(desk(2, NUMBER, -4), 9, 3, 9, 0, 7);
        dueRun(desk(2, NUMBER, 3), 9, 3, 9, 7, 7);
    }

    private static void arithmetic() {
        DispatchDesk sum = desk(2, ARGUMENT, 0, ARGUMENT, 1, ADD, 0);
        DispatchDesk product = desk(2, ARGUMENT, 0, ARGUMENT, 1, MULTIPLY, 0);
        for (int a = -4; a < 4; a++) {
            for (int b = -4; b < 4; b++) {
                dueRun(sum, a + 4, b + 4, 9, Math.floorMod(a + b + 4, 8), 5);
                dueRun(product, a + 4, b + 4, 9, Math.floorMod(a * b + 4, 8), 5);
            }
        }
    }

    private static void classesOfResults() {
        dueRun(desk(2, ARGUMENT, 0, ARGUMENT, 1, ADD, 0), 13, 5, 9, 14, 5);
        dueRun(desk(2, ARGUMENT, 1, ARGUMENT, 0, ADD, 0), 13, 5, 9, 6, 5);
        dueRun(desk(2, ARGUMENT, 0, ARGUMENT, 1, MULTIPLY, 0), 14, 5, 9, 14, 5);
        dueRun(desk(1, NUMBER, 2, CLASS, 1), 0, 0, 9, 14, 6);
        dueRun(desk(1, ARGUMENT, 0, CLASS, 0), 15, 0, 9, 7, 6);
    }

    private static void callsTakeTheirArguments() {
        DispatchDesk x = desk(2, NUMBER, 3, ARGUMENT, 0, ARGUMENT, 1);
        x.generic(2);
        x.operation(0, CALL, 1);
        x.operation(0, MULTIPLY, 0);
        x.method(1);
        write(x, 1, ARGUMENT, 0, NUMBER, 2, MULTIPLY, 0, ARGUMENT, 1, ADD, 0);
        // 3 * (2 * 1 + -1), of class 0 as the 3 is: below and between the call's arguments nothing goes.
        dueRun(x, 13, 3, 50, 7, 50 - 1 - 4 - 1 - 5 - 1);
    }

    private static void callsOfOneArgument() {
        DispatchDesk x = desk(2, ARGUMENT, 0, ARGUMENT, 1);
        x.generic(1);
        x.operation(0, CALL, 1);
        x.operation(0, ADD, 0);
        x.method(1);
        write(x, 1, ARGUMENT, 0, ARGUMENT, 0, MULTIPLY, 0);
        dueRun(x, 12, 7, 50, 13, 50 - 1 - 4 - 1 - 3);
    }

    private static void nextMethods() {
        DispatchDesk x = desk(1, NUMBER, 1);
        int even = x.method(0);
        x.atom(even, 3, 0, 0, false);
        write(x, even, NEXT, 0, NUMBER, 1, ADD, 0);
        int four = x.method(0);
        x.atom(four, 2, 0, -4, false);
        write(x, four, NEXT, 0, NUMBER, 1, ADD, 0);
        dueRun(x, 5, 0, 50, 5, 48);
        dueRun(x, 4, 0, 50, 6, 44);
        dueRun(x, 0, 0, 50, 7, 40);
    }

    private static void gapsAndAmbiguities() {
        DispatchDesk x = new DispatchDesk();
        x.generic(1);
        dueRun(x, 0, 0, 5, -1, 4);
        x.method(0);
        x.method(0);
        dueRun(x, 0, 0, 5, -2, 4);
        dueRun(x, 0, 0, 0, -3, 0);
        DispatchDesk y = desk(1, ARGUMENT, 0);
        y.generic(1);
        y.operation(0, CALL, 1);
        dueRun(y, 0, 0, 9, -1, 5);
        y.method(1);
        y.method(1);
        dueRun(y, 0, 0, 9, -2, 5);
        dueRun(y, 0, 0, 3, -3, 0);
    }

    private static void gapsAndAmbiguitiesOfNext() {
        DispatchDesk x = desk(1, NEXT, 0);
        dueRun(x, 4, 0, 9, -1, 6);
        dueRun(x, 4, 0, 2, -3, 0);
        int both = x.method(0);
        x.atom(both, 3, 0, 0, false);
        x.atom(both, 1, 0, 1, false);
        write(x, both, NEXT, 0);
        int even = x.method(0);
        x.atom(even, 3, 0, 0, false);
        int low = x.method(0);
        x.atom(low, 1, 0, 1, false);
        dueRun(x, 4, 0, 9, -2, 6);
        Due.is("while the row has a best one", both, () -> x.best(0, 4, 0));
    }

    private static void fuelOfOperations() {
        DispatchDesk x = desk(1, NUMBER, 1, NUMBER, 1, ADD, 0);
        dueRun(x, 0, 0, 1, -3, 0);
        dueRun(x, 0, 0, 2, -3, 0);
        dueRun(x, 0, 0, 3, -3, 0);
        dueRun(x, 0, 0, 4, 6, 0);
        dueRun(x, 0, 0, 5, 6, 1);
        dueRun(desk(1, ADD, 0), 0, 0, 1, -3, 0);
        dueRun(desk(1, ADD, 0), 0, 0, 2, -4, 0);
    }

    private static void fuelOfCalls() {
        DispatchDesk x = desk(1, ARGUMENT, 0);
        x.generic(1);
        x.method(1);
        x.operation(0, CALL, 1);
        dueRun(x, 0, 0, 2, -3, 0);
        dueRun(x, 0, 0, 3, -3, 0);
        dueRun(x, 0, 0, 4, 0, 0);
    }

    private static void tooHigh() {
        DispatchDesk x = desk(1);
        for (int k = 0; k < 6; k++) {
            x.operation(0, k % 2 == 0 ? NUMBER : ARGUMENT, 0);
        }
        dueRun(x, 1, 0, 20, 1, 13);
        DispatchDesk seventhNumber = desk(1, 0, 0, 0, 0, 0, 0, 0, 0, 0, 0, 0, 0, NUMBER, 0);
        dueRun(seventhNumber, 1, 0, 20, -4, 12);
        dueRun(seventhNumber, 1, 0, 7, -3, 0);
        DispatchDesk seventhArgument = desk(1, 0, 0, 0, 0, 0, 0, 0, 0, 0, 0, 0, 0, ARGUMENT, 0);
        dueRun(seventhArgument, 1, 0, 20, -4, 12);
        DispatchDesk back = desk(1, 0, 0, 0, 0, 0, 0, 0, 0, 0, 0, 0, 1, ADD, 0, ARGUMENT, 0);
        dueRun(back, 1, 0, 20, 1, 11);
    }

    private static void tooHighIsBehindTheCall() {
        DispatchDesk x = desk(1, NUMBER, 1);
        int even = x.method(0);
        x.atom(even, 3, 0, 0, false);
        write(x, even, 0, 0, 0, 0, 0, 0, 0, 0, 0, 0, 0, 0, NEXT, 0);
        dueRun(x, 4, 0, 20, -4, 20 - 1 - 7 - 1 - 1);
        dueRun(x, 4, 0, 9, -3, 0);
        dueRun(x, 4, 0, 10, -4, 0);
        x.operation(0, ADD, 0);
        dueRun(x, 4, 0, 20, -4, 20 - 1 - 7 - 1 - 2);
        x.method(0);
        dueRun(x, 4, 0, 20, -2, 20 - 1 - 7 - 1);
        DispatchDesk alone = desk(1, 0, 0, 0, 0, 0, 0, 0, 0, 0, 0, 0, 0, NEXT, 0);
        dueRun(alone, 4, 0, 20, -1, 20 - 1 - 7 - 1);
        DispatchDesk full = desk(1, 0, 0, 0, 0, 0, 0, 0, 0, 0, 0, 0, 3);
        full.generic(1);
        full.method(1);
        full.operation(0, CALL, 1);
        dueRun(full, 4, 0, 20, 7, 20 - 1 - 7 - 1);
    }

    private static void tooLittle() {
        for (int kind = ADD; kind <= MULTIPLY; kind++) {
            dueRun(desk(1, kind, 0), 0, 0, 9, -4, 7);
            dueRun(desk(1, NUMBER, 0, kind, 0), 0, 0, 9, -4, 6);
        }
        dueRun(desk(1, CLASS, 0), 0, 0, 9, -4, 7);
        dueRun(desk(1, CALL, 0), 0, 0, 9, -4, 7);
        dueRun(desk(2, CALL, 0), 0, 0, 9, -4, 7);
        dueRun(desk(2, NUMBER, 0, CALL, 0), 0, 0, 9, -4, 6);
        dueRun(desk(1, CALL, 0), 0, 0, 1, -3, 0);
        dueRun(desk(1, CALL, 0), 0, 0, 2, -4, 0);
    }

    /** Counts down by calls: with n at first, the call for 0 is within n others. */
    private static DispatchDesk countdown() {
        DispatchDesk x = desk(1, ARGUMENT, 0, NUMBER, -1, ADD, 0, CALL, 0);
        int end = x.method(0);
        x.atom(end, 2, 0, -4, false);
        return x;
    }

    private static void tooDeep() {
        DispatchDesk x = countdown();
        dueRun(x, 7, 0, 200, 0, 200 - 7 * 5 - 1);
        DispatchDesk endless = desk(1, ARGUMENT, 0, CALL, 0);
        dueRun(endless, 4, 0, 200, -5, 200 - 8 * 3);
        DispatchDesk deeper = countdown();
        deeper.generic(1);
        deeper.method(1);
        write(deeper, 2, ARGUMENT, 0, CALL, 0);
        Due.is("within 7 others", 0, () -> deeper.run(1, 6, 0, 200));
        Due.is("within 8 others", -5, () -> deeper.run(1, 7, 0, 200));
        Due.is("left", 200 - 3 - 7 * 5, deeper::left);
    }

    private static void tooDeepBeforeFuel() {
        DispatchDesk x = desk(1, ARGUMENT, 0, CALL, 0);
        dueRun(x, 4, 0, 24, -5, 0);
        dueRun(x, 4, 0, 23, -3, 0);
        DispatchDesk next = desk(1, NEXT, 0);
        next.generic(1);
        next.method(1);
        write(next, 1, ARGUMENT, 0, CALL, 1);
        int even = next.method(1);
        next.atom(even, 3, 0, 0, false);
        write(next, even, NEXT, 0);
        Due.is("calls of NEXT count", -5, () -> next.run(1, 4, 0, 200));
        Due.is("left", 200 - 4 * 2 - 4 * 3, next::left);
        Due.is("without fuel for the ninth call", -5, () -> next.run(1, 4, 0, 20));
        Due.is("without fuel for its operation", -3, () -> next.run(1, 4, 0, 19));
    }

    private static void leftIsOfTheLatestRun() {
        DispatchDesk x = desk(1);
        Due.is("no run yet", 0, x::left);
        dueRun(x, 0, 0, 10, 0, 9);
        Due.fails("a run that is none", Due.ARGUMENT, () -> x.run(0, 0, 0, 201));
        Due.is("does not count", 9, x::left);
        x.klass(0);
        x.method(0);
        x.check(0);
        Due.is("changes leave it", 9, x::left);
        dueRun(x, 0, 0, 10, -2, 9);
    }

    private static void testsAreCounted() {
        DispatchDesk x = countdown();
        x.run(0, 6, 0, 200);
        Due.is("no run by a graph", 0, x::tests);
        x.compile(0);
        Due.is("compiling runs nothing", 0, x::tests);
        x.run(0, 6, 0, 200);
        Due.is("a test for each of 7 calls", 7, x::tests);
        x.run(0, 6, 0, 2);
        Due.is("the latest run alone", 1, x::tests);
        Due.fails("a run that is none", Due.ARGUMENT, () -> x.run(0, 99, 0, 5));
        Due.is("does not count", 1, x::tests);
        x.run(0, 6, 0, 0);
        Due.is("a call without fuel passes no test", 0, x::tests);
        x.klass(0);
        x.run(0, 6, 0, 200);
        Due.is("the graph is gone", 0, x::tests);
        DispatchDesk next = desk(1, NUMBER, 1);
        int even = next.method(0);
        next.atom(even, 3, 0, 0, false);
        write(next, even, NEXT, 0);
        next.compile(0);
        next.run(0, 4, 0, 50);
        Due.is("NEXT goes by no graph", 1, next::tests);
        DispatchDesk gap = new DispatchDesk();
        gap.generic(1);
        gap.method(0);
        gap.atom(0, 3, 0, 0, false);
        gap.compile(0);
        Due.is("a gap", -1, () -> gap.run(0, 5, 0, 5));
        Due.is("is found by a test", 1, gap::tests);
    }

    private static void graphsComeToTheSame() {
        DispatchDesk x = countdown();
        for (int a = 0; a < 16; a++) {
            int value = a;
            DispatchDesk y = countdown();
            y.compile(0);
            Due.is("by the graph, with " + a, x.run(0, a, 0, 200), () -> y.run(0, value, 0, 200));
            Due.is("left, with " + a, x.left(), y::left);
        }
    }
}
