/** All promises: long runs of calls, the same for the class and for the model, must answer the same. */
public final class ModelTest {
    private static final int RUNS = 1000;
    private static final int LARGE_RUNS = 300;
    /** What later calls answer is free. */
    private static final int MOST_CALLS = 512;

    private final int run;
    private final DispatchDesk desk = new DispatchDesk();
    private final Model model = new Model();
    /** How many of each there are as far as answers told, to aim most calls at what is there. */
    private int classes = 1;
    private int generics = 0;
    private int methods = 0;
    private int nodes = 0;
    private int calls = 0;
    private long seed;

    private ModelTest(int run) {
        this.run = run;
        this.seed = 77 + run;
    }

    public static void main(String[] args) {
        for (int run = 0; run < RUNS; run++) {
            new ModelTest(run).go();
        }
        for (int run = RUNS; run < RUNS + LARGE_RUNS; run++) {
            new ModelTest(run).goLarge();
        }
        Due.end();
    }

    private void go() {
        int mostClasses = run % 10 == 0 ? 8 : 1 + run % 4;
        int mostGenerics = 1 + run / 4 % 4;
        while (generics < mostGenerics) {
            addGeneric();
            addMethod(generics - 1);
        }
        while (calls < MOST_CALLS) {
            int dice = below(100);
            if (dice < 2 && classes < mostClasses || dice == 99) {
                addClass();
            } else if (dice < 3) {
                addGeneric();
            } else if (dice < 9) {
                addMethod(near(generics));
            } else if (dice < 25) {
                addAtom();
            } else if (dice < 45) {
                addOperation();
            } else {
                ask(dice);
            }
        }
    }

    /** One generic of two arguments with many atoms, whose graph is looked at whole. */
    private void goLarge() {
        both("generic(2)", () -> desk.generic(2), () -> (generics = model.generic(2) + 1) - 1);
        for (int c = run % 4; c > 0; c--) {
            addClass();
        }
        for (int m = 5 + run / 4 % 8; m > 0; m--) {
            addMethod(0);
        }
        for (int k = methods * (1 + run / 32 % 3); k > 0; k--) {
            addAtom();
        }
        both("check(0)", () -> desk.check(0), () -> model.check(0));
        compileAndAsk(0);
    }

    private int below(int bound) {
        seed = seed * 6364136223846793005L + 1442695040888963407L;
        return (int) ((seed >>> 33) % bound);
    }

    /** A number from 0 up to a bound, and now and then one just outside. */
    private int near(int bound) {
        int dice = below(40);
        return dice == 0 ? -1 : dice == 1 || bound == 0 ? bound : below(bound);
    }

    private void both(String call, Due.Call ofDesk, Due.Call ofModel) {
        calls++;
        if (calls > MOST_CALLS) {
            return;
        }
        Due.compare("run " + run + ": " + call, Due.outcome(ofModel), Due.outcome(ofDesk));
    }

    private void addClass() {
        int parent = near(classes);
        both("klass(" + parent + ")", () -> desk.klass(parent), () -> (classes = model.klass(parent) + 1) - 1);
    }

    private void addGeneric() {
        int arguments = below(12) == 0 ? 3 * below(2) : 1 + below(2);
        both("generic(" + arguments + ")", () -> desk.generic(arguments),
                () -> (generics = model.generic(arguments) + 1) - 1);
    }

    private void addMethod(int generic) {
        both("method(" + generic + ")", () -> desk.method(generic), () -> (methods = model.method(generic) + 1) - 1);
    }

    /** In half of the runs the first methods keep holding for all rows, so that bodies come to run. */
    private void addAtom() {
        int m = near(methods);
        if (run % 2 == 0 && m < generics) {
            return;
        }
        int kind = near(6);
        int i = near(2);
        int x = kind == 0 ? near(classes) : kind == 1 ? near(9) - 4 : near(8) - 4;
        boolean negated = below(3) == 0;
        both("atom(" + m + ", " + kind + ", " + i + ", " + x + ", " + negated + ")",
                () -> desk.atom(m, kind, i, x, negated), () -> model.atom(m, kind, i, x, negated));
    }

    private void addOperation() {
        int m = near(methods);
        int kind = below(3) == 0 ? near(2) : near(7);
        int n = kind == 0 ? near(8) - 4 : kind == 1 ? near(2) : kind == 4 ? near(classes) : near(generics);
        both("operation(" + m + ", " + kind + ", " + n + ")",
                () -> desk.operation(m, kind, n), () -> model.operation(m, kind, n));
    }

    private void ask(int dice) {
        int g = near(generics);
        int a = near(8 * classes);
        int b = near(8 * classes);
        if (dice < 50) {
            int one = near(methods);
            int other = near(methods);
            both("beyond(" + one + ", " + other + ")",
                    () -> desk.beyond(one, other) ? 1 : 0, () -> model.beyond(one, other) ? 1 : 0);
        } else if (dice < 58) {
            both("best(" + g + ", " + a + ", " + b + ")", () -> desk.best(g, a, b), () -> model.best(g, a, b));
        } else if (dice < 64) {
            both("check(" + g + ")", () -> desk.check(g), () -> model.check(g));
        } else if (dice < 70) {
            int i = near(2);
            both("witness(" + i + ")", () -> desk.witness(i), () -> model.witness(i));
        } else if (dice < 74) {
            compileAndAsk(g);
        } else if (dice < 79) {
            askPart(g, near(80), near(3));
        } else {
            int fuel = below(4) == 0 ? near(201) : below(30);
            both("run(" + g + ", " + a + ", " + b + ", " + fuel + ")",
                    () -> desk.run(g, a, b, fuel), () -> model.run(g, a, b, fuel));
            both("left()", desk::left, model::left);
            both("tests()", desk::tests, model::tests);
        }
    }

    private void askPart(int g, int k, int what) {
        both("node(" + g + ", " + k + ", " + what + ")",
                () -> desk.node(g, k, what), () -> model.node(g, k, what));
        both("test(" + g + ", " + k + ", " + what + ")",
                () -> desk.test(g, k, what), () -> model.test(g, k, what));
    }

    private void compileAndAsk(int g) {
        nodes = 0;
        both("compile(" + g + ")", () -> desk.compile(g), () -> nodes = model.compile(g));
        for (int k = 0; k <= nodes; k++) {
            for (int what = 0; what < 3; what++) {
                askPart(g, k, what);
            }
        }
    }
}
