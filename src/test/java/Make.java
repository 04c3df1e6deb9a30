import java.util.Arrays;
import java.util.List;

/** Builds desks for the tests, with conditions and bodies that are written as texts. */
final class Make {
    private static final List<String> ATOMS = Arrays.asList("class", "below", "is", "even", "less", "same");
    private static final List<String> OPERATIONS =
            Arrays.asList("NUMBER", "ARGUMENT", "ADD", "MULTIPLY", "CLASS", "CALL", "NEXT");

    private Make() {
    }

    /** A desk with so many classes, each the parent of the one behind it. */
    static DispatchDesk chain(int classes) {
        DispatchDesk x = new DispatchDesk();
        for (int c = 1; c < classes; c++) {
            x.klass(c - 1);
        }
        return x;
    }

    /** A desk with so many classes, all but class 0 with class 0 for a parent. */
    static DispatchDesk flat(int classes) {
        DispatchDesk x = new DispatchDesk();
        for (int c = 1; c < classes; c++) {
            x.klass(0);
        }
        return x;
    }

    /** A desk of classes 0 and 1 with one generic and one method, for all rows, with this body. */
    static DispatchDesk desk(int arguments, String body) {
        DispatchDesk x = flat(2);
        x.generic(arguments);
        method(x, 0, "", body);
        return x;
    }

    /** A method with a condition such as "class 0 1, not below 1 3, even 0, less, same". */
    static int method(DispatchDesk x, int generic, String condition) {
        int m = x.method(generic);
        for (String atom : parts(condition)) {
            atom(x, m, atom);
        }
        return m;
    }

    static int method(DispatchDesk x, int generic, String condition, String body) {
        int m = method(x, generic, condition);
        write(x, m, body);
        return m;
    }

    static int atom(DispatchDesk x, int method, String atom) {
        boolean negated = atom.startsWith("not ");
        String[] words = (negated ? atom.substring(4) : atom).split(" ");
        return x.atom(method, ATOMS.indexOf(words[0]), number(words, 1), number(words, 2), negated);
    }

    /** Adds operations such as "ARGUMENT 0, NUMBER -1, ADD, CALL 0". */
    static void write(DispatchDesk x, int method, String body) {
        for (String operation : parts(body)) {
            String[] words = operation.split(" ");
            x.operation(method, OPERATIONS.indexOf(words[0]), number(words, 1));
        }
    }

    /** The same operation, so many times. */
    static String times(int count, String operation) {
        return String.join(", ", java.util.Collections.nCopies(count, operation));
    }

    static int value(int klass, int number) {
        return 8 * klass + number + 4;
    }

    private static String[] parts(String text) {
        return text.isEmpty() ? new String[0] : text.split(", ");
    }

    private static int number(String[] words, int k) {
        return k < words.length ? Integer.parseInt(words[k]) : 0;
    }
}
