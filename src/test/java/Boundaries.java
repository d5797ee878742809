import java.lang.reflect.InvocationTargetException;
import java.lang.reflect.Method;
import java.util.Arrays;
import java.util.Comparator;

/** What the tests of the boundaries share: running them, an object to begin with, and a look at all of its state. */
final class Boundaries {
    static final int[] NO_WORDS = {-1, 3, 256, 65536, Integer.MIN_VALUE, Integer.MAX_VALUE};
    static final int[] NO_LETTERS = {-1, 3, 256, 65536, Integer.MIN_VALUE, Integer.MAX_VALUE};
    static final int[] NO_REGISTERS = {-1, 5, 256, 65536, Integer.MIN_VALUE, Integer.MAX_VALUE};

    static final String WORD_0 = "aab";
    static final String WORD_1 = "ba";
    static final String WORD_2 = "cccccccc";
    static final String REGISTER_0 = "3-ab+2ba";
    static final String REGISTER_1 = "-1000000+1000000aab";
    static final String REGISTER_3 = "65536c-bac+cccccccc";
    static final String REGISTER_4 = "-a";
    static final String INPUT = "2cb";

    private static final String TWELVE = "a+b+c+aa+ab+ac+ba+bb+bc+ca+cb+cc";
    private static final String TEN = "aaa+aab+aac+aba+abb+abc+aca+acb+acc+baa";

    interface Call {
        long on(ShuffleAlgebra x);
    }

    interface Start {
        ShuffleAlgebra made();
    }

    private Boundaries() {
    }

    /** Runs all tests of a class that are marked with what they hold. */
    static void run(Class<?> tests) throws IllegalAccessException, InvocationTargetException {
        Method[] methods = tests.getDeclaredMethods();
        Arrays.sort(methods, Comparator.comparing(Method::getName));
        for (Method test : methods) {
            Holds holds = test.getAnnotation(Holds.class);
            if (holds != null) {
                Check.under(holds.in() + ", \"" + String.join("; ", holds.says()) + "\": ");
                test.setAccessible(true);
                test.invoke(null);
            }
        }
        Check.under("");
        Check.finish();
    }

    /** Gives a register 120 terms with the coefficient 1 and words of 4 and 5 letters; the spare one is 0 then. */
    static void fill(ShuffleAlgebra x, int register, int spare) {
        Check.parse(x, TWELVE, register);
        Check.parse(x, TEN, spare);
        Check.due("the terms of a full register", x.multiply(ShuffleAlgebra.CONCATENATION, register, spare, register), 120);
        x.clearPolynomial(spare);
    }

    /**
     * An object with which every call can be refused for each of its reasons: a Lyndon word, another word and a full
     * one; polynomials with an empty word, the largest numbers, 120 terms (register 2), 8 letters, and one letter; an
     * input, an output, and a snapshot that is unlike all of it.
     */
    static ShuffleAlgebra rich(String input) {
        ShuffleAlgebra x = Check.withPolynomials("b-2c", "1+cc", "3aab", "-a", "2-bb");
        String[] saved = {"cb", "", "abcabc"};
        String[] words = {WORD_0, WORD_1, WORD_2};
        for (int i = 0; i < words.length; i++) {
            Check.setWord(x, i, saved[i]);
        }
        x.saveSnapshot();
        for (int i = 0; i < words.length; i++) {
            Check.setWord(x, i, words[i]);
        }
        fill(x, 2, 3);
        Check.parse(x, REGISTER_0, 0);
        Check.parse(x, REGISTER_1, 1);
        Check.parse(x, REGISTER_3, 3);
        Check.parse(x, REGISTER_4, 4);
        x.write(0);
        Check.type(x, input);
        return x;
    }

    static ShuffleAlgebra rich() {
        return rich(INPUT);
    }

    /**
     * All that can be found out about an object; it is used up by this. The input is told by parsing it, the snapshot
     * by restoring it, and the sums in between tell whether an earlier call left something behind inside.
     */
    static String whole(ShuffleAlgebra x) {
        StringBuilder text = new StringBuilder(Check.state(x));
        text.append(" input ").append(x.parsePolynomial(0)).append(' ').append(Check.polynomial(x, 0));
        for (int register = 0; register < 5; register++) {
            x.scale(register, 1, register);
            text.append(" again ").append(Check.polynomial(x, register));
        }
        text.append(" snapshot ").append(x.restoreSnapshot()).append(' ').append(Check.state(x));
        return text.toString();
    }

    /** A call that answers this and leaves everything as it was: a refused one, or a question. */
    static void unchanged(String name, Start start, Call call, long answer) {
        ShuffleAlgebra x = start.made();
        Check.due(name, call.on(x), answer);
        Check.due("the state behind " + name, whole(x), whole(start.made()));
    }

    static void unchanged(String name, Call call, long answer) {
        unchanged(name, Boundaries::rich, call, answer);
    }

    /** A call that answers this and only takes the input away. */
    static void takesInput(String name, String input, Call call, long answer) {
        ShuffleAlgebra x = rich(input);
        Check.due(name, call.on(x), answer);
        Check.due("the state behind " + name, whole(x), whole(rich("")));
    }

    /** Register 4 becomes this by a call on an object with these polynomials, and nothing else changes. */
    static void result(String name, Call call, String want, String... polynomials) {
        ShuffleAlgebra x = Check.withPolynomials(polynomials);
        int terms = want.equals("0") ? 0 : want.split("(?<=.)[+-]").length;
        Check.due(name, call.on(x), terms);
        Check.due("the result of " + name, Check.written(x, 4), want);
        for (int register = 0; register < polynomials.length && register < 4; register++) {
            Check.due("a source of " + name, Check.written(x, register), polynomials[register]);
        }
    }
}
