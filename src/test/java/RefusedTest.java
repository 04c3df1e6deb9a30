/**
 * A call that is refused changes nothing: behind each of them a full desk looks as one does on which
 * no call was refused.
 */
public final class RefusedTest {
    /** More than each graph has. */
    private static final int NODES = 12;

    private interface DeskCall {
        long answer(DispatchDesk x);
    }

    public static void main(String[] args) {
        toBuild();
        toAsk();
        Due.end();
    }

    private static void toBuild() {
        refused("klass(0)", Due.STATE, x -> x.klass(0));
        refused("klass(7)", Due.STATE, x -> x.klass(7));
        refused("klass(8)", Due.ARGUMENT, x -> x.klass(8));
        refused("generic(1)", Due.STATE, x -> x.generic(1));
        refused("generic(3)", Due.ARGUMENT, x -> x.generic(3));
        refused("method(0)", Due.STATE, x -> x.method(0));
        refused("method(3)", Due.STATE, x -> x.method(3));
        refused("method(4)", Due.ARGUMENT, x -> x.method(4));
        refused("an atom of a method that has 4", Due.STATE, x -> Make.atom(x, 8, "even 0"));
        refused("an atom of no method", Due.ARGUMENT, x -> Make.atom(x, 12, "even 0"));
        refused("an atom of no kind", Due.ARGUMENT, x -> x.atom(0, 6, 0, 0, false));
        refused("an atom of no argument", Due.ARGUMENT, x -> Make.atom(x, 1, "even 1"));
        refused("an atom of no number", Due.ARGUMENT, x -> Make.atom(x, 0, "below 0 5"));
        refused("an atom of no class", Due.ARGUMENT, x -> Make.atom(x, 0, "class 0 8"));
        refused("an atom of two arguments", Due.ARGUMENT, x -> Make.atom(x, 1, "same"));
        refused("an operation of a method that has 8", Due.STATE, x -> x.operation(0, 2, 0));
        refused("an operation of no method", Due.ARGUMENT, x -> x.operation(12, 2, 0));
        refused("an operation of no kind", Due.ARGUMENT, x -> x.operation(1, 7, 0));
        refused("an operation of no generic", Due.ARGUMENT, x -> x.operation(1, 5, 4));
    }

    private static void toAsk() {
        refused("beyond of no method", Due.ARGUMENT, x -> x.beyond(0, 12) ? 1 : 0);
        refused("beyond of two generics", Due.ARGUMENT, x -> x.beyond(0, 1) ? 1 : 0);
        refused("best of no generic", Due.ARGUMENT, x -> x.best(4, 0, 0));
        refused("best of no value", Due.ARGUMENT, x -> x.best(0, 0, 64));
        refused("check", Due.ARGUMENT, x -> x.check(4));
        refused("witness", Due.NO_ELEMENT, x -> x.witness(2));
        refused("compile", Due.ARGUMENT, x -> x.compile(-1));
        refused("node of no what", Due.ARGUMENT, x -> x.node(0, 0, 3));
        refused("node", Due.NO_ELEMENT, x -> x.node(0, 80, 0));
        refused("test of no what", Due.ARGUMENT, x -> x.test(0, 0, 3));
        refused("test", Due.NO_ELEMENT, x -> x.test(0, 48, 0));
        refused("run of no generic", Due.ARGUMENT, x -> x.run(4, 0, 0, 9));
        refused("run of no value", Due.ARGUMENT, x -> x.run(0, 64, 0, 9));
        refused("run of no fuel", Due.ARGUMENT, x -> x.run(0, 0, 0, 201));
    }

    private static void refused(String what, Class<?> want, DeskCall call) {
        DispatchDesk x = full();
        Due.fails(what, want, () -> call.answer(x));
        Due.compare("what stands behind " + what, view(full()), view(x));
    }

    /** Method m belongs to generic m % 4; the generics of even number take two arguments. */
    private static DispatchDesk full() {
        DispatchDesk x = Make.chain(8);
        for (int g = 0; g < 4; g++) {
            x.generic(2 - g % 2);
        }
        for (int m = 0; m < 12; m++) {
            x.method(m % 4);
        }
        Make.write(x, 0, "ARGUMENT 1, NUMBER 1, ADD, NUMBER 1, ADD, NUMBER 1, ADD, CLASS 3");
        for (int m = 4; m < 12; m++) {
            Make.atom(x, m, m < 8 ? "even 0" : "not below 0 2");
        }
        for (int k = 0; k < 3; k++) {
            Make.atom(x, 8, "not is 1 -4");
        }
        for (int g = 0; g < 4; g++) {
            x.compile(g);
        }
        x.check(0);
        x.run(2, 6, 6, 9);
        return x;
    }

    /** The latest run and check come first, since the runs of each generic change what is left. */
    private static String view(DispatchDesk x) {
        StringBuilder text = new StringBuilder();
        text.append(x.left()).append(' ').append(x.tests());
        for (int i = 0; i < 2; i++) {
            int argument = i;
            text.append(' ').append(Due.outcome(() -> x.witness(argument)));
        }
        for (int g = 0; g < 4; g++) {
            viewGeneric(x, g, text);
        }
        return text.toString();
    }

    private static void viewGeneric(DispatchDesk x, int g, StringBuilder text) {
        text.append("; generic ").append(g).append(':');
        for (int k = 0; k < NODES; k++) {
            int asked = k;
            text.append(' ').append(Due.outcome(() -> x.node(g, asked, 1)));
        }
        for (int k = 0; k < 4; k++) {
            int asked = k;
            text.append(' ').append(Due.outcome(() -> x.test(g, asked, 0)));
        }
        for (int a = 0; a < 64; a += 21) {
            int first = a;
            text.append(' ').append(Due.outcome(() -> x.best(g, first, 63 - first)));
        }
        text.append(' ').append(x.beyond(g + 4, g)).append(' ').append(x.beyond(g + 8, g + 4));
        for (int a = 0; a < 64; a += 5) {
            text.append(' ').append(x.run(g, a, 63 - a, 20));
        }
    }
}
