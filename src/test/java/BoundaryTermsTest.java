/** Promises 17 to 23: the boundary cases that the document names for the terms of a register, sentence by sentence. */
public final class BoundaryTermsTest {
    private static final int NO_SUCH_REGISTER = ShuffleAlgebra.NO_SUCH_REGISTER;
    private static final int NO_SUCH_WORD = ShuffleAlgebra.NO_SUCH_WORD;
    private static final int BAD_VALUE = ShuffleAlgebra.BAD_VALUE;
    private static final int FULL = ShuffleAlgebra.FULL;
    private static final int OVERFLOW = ShuffleAlgebra.OVERFLOW;
    private static final int NONE = ShuffleAlgebra.NONE;
    private static final long NO_VALUE = ShuffleAlgebra.NO_VALUE;
    private static final int[] NO_COEFFICIENTS = {1000001, -1000001, 1 << 24, Integer.MIN_VALUE, Integer.MAX_VALUE};
    private static final String NEW_WORD = "cccc";

    public static void main(String[] args) throws ReflectiveOperationException {
        Boundaries.run(BoundaryTermsTest.class);
    }

    private static ShuffleAlgebra full() {
        ShuffleAlgebra x = new ShuffleAlgebra();
        Boundaries.fill(x, 2, 0);
        return x;
    }

    private static ShuffleAlgebra fiveRegisters() {
        return Check.withPolynomials("a", "2b", "3c", "4aa", "5bb");
    }

    // ---- promise 17

    @Holds(in = "Promise 17", says = {"Makes a polynomial 0", "Returns the number of terms that it had"})
    static void clearPolynomialFromNoneToFull() {
        ShuffleAlgebra x = full();
        Check.due("clearPolynomial of the empty polynomial", x.clearPolynomial(0), 0);
        Check.due("clearPolynomial of 120 terms", x.clearPolynomial(2), 120);
        Check.due("clearPolynomial again", x.clearPolynomial(2), 0);
        Check.due("the state", Check.state(x), ",,,[][][][][]");
        Check.due("clearPolynomial of one term", Check.withPolynomials("1").clearPolynomial(0), 1);
        Boundaries.fill(x, 2, 0);
        Check.due("termCount of a register that was filled again", x.termCount(2), 120);
    }

    @Holds(in = "Promise 17", says = {"register: the register, 0 to 4", "NO_SUCH_REGISTER"})
    static void clearPolynomialOfNoRegister() {
        for (int register = 0; register < 5; register++) {
            ShuffleAlgebra x = fiveRegisters();
            Check.due("clearPolynomial(" + register + ")", x.clearPolynomial(register), 1);
            for (int other = 0; other < 5; other++) {
                Check.due("termCount(" + other + ")", x.termCount(other), other == register ? 0 : 1);
            }
        }
        for (int wrong : Boundaries.NO_REGISTERS) {
            Boundaries.unchanged("clearPolynomial(" + wrong + ")", x -> x.clearPolynomial(wrong), NO_SUCH_REGISTER);
        }
    }

    // ---- promise 18

    @Holds(in = "Promise 18", says = {"Adds a word times a coefficient to a polynomial", "Returns the new number of terms"})
    static void addTermFromEmptyToFullWord() {
        ShuffleAlgebra x = Check.withWords("", "cccccccc", "b");
        Check.due("addTerm of the full word", x.addTerm(0, 1, -1), 1);
        Check.due("addTerm of the empty word", x.addTerm(0, 0, 1), 2);
        Check.due("addTerm of one letter", x.addTerm(0, 2, 2), 3);
        Check.due("the terms", Check.polynomial(x, 0), "1* 2*b -1*cccccccc");
        Check.due("addTerm that takes the last term", x.addTerm(0, 1, 1), 2);
        Check.due("addTerm that takes the first term", x.addTerm(0, 0, -1), 1);
        Check.due("addTerm that takes the only term", x.addTerm(0, 2, -2), 0);
        Check.due("the terms", Check.polynomial(x, 0), "");
    }

    @Holds(in = "Promise 18", says = {"register: the register, 0 to 4", "NO_SUCH_REGISTER (checked first)"})
    static void addTermToNoRegister() {
        for (int register = 0; register < 5; register++) {
            ShuffleAlgebra x = Check.withWords("ab");
            Check.due("addTerm(" + register + ", 0, 7)", x.addTerm(register, 0, 7), 1);
            for (int other = 0; other < 5; other++) {
                Check.due("register " + other, Check.polynomial(x, other), other == register ? "7*ab" : "");
            }
        }
        for (int wrong : Boundaries.NO_REGISTERS) {
            Boundaries.unchanged("addTerm(" + wrong + ", 0, 1)", x -> x.addTerm(wrong, 0, 1), NO_SUCH_REGISTER);
            Boundaries.unchanged("no register and no word", x -> x.addTerm(wrong, 3, 1), NO_SUCH_REGISTER);
            Boundaries.unchanged("no register and no number", x -> x.addTerm(wrong, 0, 1000001), NO_SUCH_REGISTER);
            Boundaries.unchanged("no register, word and number", x -> x.addTerm(wrong, -1, -1000001), NO_SUCH_REGISTER);
        }
    }

    @Holds(in = "Promise 18", says = {"word: the word buffer, 0 to 2", "NO_SUCH_WORD (checked second)"})
    static void addTermOfNoWord() {
        String[] words = {"a", "b", "c"};
        for (int word = 0; word < 3; word++) {
            ShuffleAlgebra x = Check.withWords(words);
            Check.due("addTerm(4, " + word + ", 7)", x.addTerm(4, word, 7), 1);
            Check.due("the term", Check.polynomial(x, 4), "7*" + words[word]);
        }
        for (int wrong : Boundaries.NO_WORDS) {
            Boundaries.unchanged("addTerm(0, " + wrong + ", 1)", x -> x.addTerm(0, wrong, 1), NO_SUCH_WORD);
            Boundaries.unchanged("addTerm(2, " + wrong + ", 1)", x -> x.addTerm(2, wrong, 1), NO_SUCH_WORD);
            for (int number : NO_COEFFICIENTS) {
                Boundaries.unchanged("no word and no number", x -> x.addTerm(0, wrong, number), NO_SUCH_WORD);
            }
        }
    }

    @Holds(in = "Promise 18", says = {"coefficient: the coefficient, -1000000 to 1000000",
        "BAD_VALUE if coefficient is out of range (checked third)"})
    static void addTermOutOfRange() {
        for (int sign = -1; sign <= 1; sign += 2) {
            ShuffleAlgebra x = Check.withWords("a");
            Check.due("the last number", x.addTerm(0, 0, sign * 1000000), 1);
            Check.due("its coefficient", x.termCoefficient(0, 0), sign * 1000000);
            Check.due("the first number behind", x.addTerm(1, 0, sign * 1000001), BAD_VALUE);
        }
        for (int wrong : NO_COEFFICIENTS) {
            Boundaries.unchanged("addTerm(0, 0, " + wrong + ")", x -> x.addTerm(0, 0, wrong), BAD_VALUE);
            Boundaries.unchanged("no number, and no range", x -> x.addTerm(1, 0, wrong), BAD_VALUE);
            Boundaries.unchanged("no number, and no room", x -> x.addTerm(2, 2, wrong), BAD_VALUE);
        }
        Boundaries.unchanged("a number out of range that would lead back", x -> x.addTerm(1, 0, -1000001), BAD_VALUE);
    }

    @Holds(in = "Promise 18", says = "it may be 0")
    static void addTermOfZero() {
        Boundaries.unchanged("addTerm of 0 to a term", x -> x.addTerm(1, 0, 0), 2);
        Boundaries.unchanged("addTerm of 0 to no term", x -> x.addTerm(0, 0, 0), 3);
        Boundaries.unchanged("addTerm of 0 to no term of 120", x -> x.addTerm(2, 2, 0), 120);
        Boundaries.unchanged("addTerm of 0 to the polynomial 0", ShuffleAlgebra::new, x -> x.addTerm(4, 1, 0), 0);
    }

    @Holds(in = "Promise 18", says = "OVERFLOW if the new coefficient of the word is out of range (checked fourth)")
    static void addTermToTheRange() {
        for (int sign = -1; sign <= 1; sign += 2) {
            ShuffleAlgebra x = Check.withWords("a");
            x.addTerm(0, 0, sign * 999999);
            Check.due("addTerm up to the last coefficient", x.addTerm(0, 0, sign), 1);
            Check.due("addTerm behind the last coefficient", x.addTerm(0, 0, sign), OVERFLOW);
            Check.due("addTerm far behind", x.addTerm(0, 0, sign * 1000000), OVERFLOW);
            Check.due("the coefficient", x.coefficient(0, 0), sign * 1000000);
            Check.due("addTerm back", x.addTerm(0, 0, -sign * 1000000), 0);
        }
        Boundaries.unchanged("addTerm(1, 0, 1)", x -> x.addTerm(1, 0, 1), OVERFLOW);
        Boundaries.unchanged("addTerm(1, 0, 1000000)", x -> x.addTerm(1, 0, 1000000), OVERFLOW);
        ShuffleAlgebra x = full();
        Check.setWord(x, 0, "aaaa");
        Check.due("addTerm to a term of 120", x.addTerm(2, 0, 999999), 120);
        Check.due("addTerm to a term of 120, out of range", x.addTerm(2, 0, 1), OVERFLOW);
        Check.due("the coefficient", x.coefficient(2, 0), 1000000);
    }

    @Holds(in = "Promise 18", says = "FULL if the polynomial would have more than 120 terms")
    static void addTermToTheRoom() {
        ShuffleAlgebra x = full();
        Check.setWord(x, 0, NEW_WORD);
        Check.setWord(x, 1, "aaaa");
        Check.due("a 121st word in the middle", x.addTerm(2, 0, 1), FULL);
        Check.due("a 121st word at the beginning", x.addTerm(2, 2, -1000000), FULL);
        Check.due("addTerm that leaves 119 words", x.addTerm(2, 1, -1), 119);
        Check.due("a 120th word", x.addTerm(2, 0, 1), 120);
        Check.due("a 121st word", x.addTerm(2, 1, 1), FULL);
        Check.due("the word that is there", x.coefficient(2, 0), 1);
        Check.due("the word that isn't there", x.coefficient(2, 1), 0);
        Boundaries.unchanged("a 121st word at the end", y -> y.addTerm(2, 2, 1), FULL);
        Boundaries.unchanged("a 121st word with the largest number", y -> y.addTerm(2, 1, 1000000), FULL);
    }

    // ---- promise 19

    @Holds(in = "Promise 19", says = {"Returns the coefficient of a word in a polynomial",
        "Returns the coefficient, 0 if there is no such term"})
    static void coefficientOfTermAndNone() {
        ShuffleAlgebra x = Check.withPolynomials("-1000000+1000000cccccccc", "a", "0");
        Check.setWord(x, 1, "cccccccc");
        Check.setWord(x, 2, "ccccccc");
        Check.due("coefficient of the empty word", x.coefficient(0, 0), -1000000);
        Check.due("coefficient of the full word", x.coefficient(0, 1), 1000000);
        Check.due("coefficient of the word with a letter less", x.coefficient(0, 2), 0);
        Check.due("coefficient of the empty word, not there", x.coefficient(1, 0), 0);
        Check.due("coefficient of the full word, not there", x.coefficient(1, 1), 0);
        Check.due("coefficient in the polynomial 0", x.coefficient(2, 0), 0);
        Check.due("coefficient in the polynomial 0", x.coefficient(2, 1), 0);
        Boundaries.unchanged("coefficient(1, 0)", y -> y.coefficient(1, 0), 1000000);
        Boundaries.unchanged("coefficient(2, 0)", y -> y.coefficient(2, 0), 0);
        ShuffleAlgebra y = full();
        Check.setWord(y, 0, "aaaa");
        Check.setWord(y, 1, "ccbaa");
        Check.due("coefficient of the first of 120 terms", y.coefficient(2, 0), 1);
        Check.due("coefficient of the last of 120 terms", y.coefficient(2, 1), 1);
        Check.due("coefficient of none of 120 terms", y.coefficient(2, 2), 0);
    }

    @Holds(in = "Promise 19", says = {"register: the register, 0 to 4", "word: the word buffer, 0 to 2",
        "NO_VALUE if the register or the word buffer does not exist"})
    static void coefficientInNoRegister() {
        ShuffleAlgebra x = fiveRegisters();
        String[] words = {"a", "b", "c"};
        for (int word = 0; word < 3; word++) {
            Check.setWord(x, word, words[word]);
        }
        for (int register = 0; register < 5; register++) {
            for (int word = 0; word < 3; word++) {
                String name = "coefficient(" + register + ", " + word + ")";
                Check.due(name, x.coefficient(register, word), register == word ? register + 1 : 0);
            }
        }
        for (int wrong : Boundaries.NO_REGISTERS) {
            Boundaries.unchanged("coefficient(" + wrong + ", 0)", y -> y.coefficient(wrong, 0), NO_VALUE);
            Boundaries.unchanged("no register and no word", y -> y.coefficient(wrong, 3), NO_VALUE);
        }
        for (int wrong : Boundaries.NO_WORDS) {
            Boundaries.unchanged("coefficient(0, " + wrong + ")", y -> y.coefficient(0, wrong), NO_VALUE);
        }
    }

    // ---- promise 20

    @Holds(in = "Promise 20", says = {"Returns the number of terms of a polynomial", "Returns 0 to 120"})
    static void termCountFromNoneToFull() {
        ShuffleAlgebra x = full();
        Check.due("termCount of 0", x.termCount(0), 0);
        Check.due("termCount of a full register", x.termCount(2), 120);
        Check.setWord(x, 0, "aaaa");
        x.addTerm(2, 0, -1);
        Check.due("termCount with a term less", x.termCount(2), 119);
        Check.due("termCount of the empty word alone", Check.withPolynomials("1").termCount(0), 1);
        Boundaries.unchanged("termCount(2)", y -> y.termCount(2), 120);
    }

    @Holds(in = "Promise 20", says = {"register: the register, 0 to 4", "NO_SUCH_REGISTER"})
    static void termCountOfNoRegister() {
        ShuffleAlgebra x = Check.withPolynomials("0", "a", "a+b", "a+b+c", "1+a+b+c");
        for (int register = 0; register < 5; register++) {
            Check.due("termCount(" + register + ")", x.termCount(register), register);
        }
        for (int wrong : Boundaries.NO_REGISTERS) {
            Boundaries.unchanged("termCount(" + wrong + ")", y -> y.termCount(wrong), NO_SUCH_REGISTER);
        }
    }

    // ---- promise 21

    @Holds(in = "Promise 21", says = {"Returns the length of the word of a term", "Returns 0 to 8"})
    static void termLengthFromEmptyToFull() {
        ShuffleAlgebra x = Check.withPolynomials("1+a+ca+bac+abac+caaaa+abcabc+acacaca+cccccccc");
        for (int term = 0; term <= 8; term++) {
            Check.due("termLength(0, " + term + ")", x.termLength(0, term), term);
        }
        Boundaries.unchanged("termLength(3, 2)", y -> y.termLength(3, 2), 8);
    }

    @Holds(in = "Promise 21", says = {"term: the number of the term", "NONE if there is no such term"})
    static void termLengthOfNoTerm() {
        ShuffleAlgebra x = full();
        Check.due("termLength of the first of 120", x.termLength(2, 0), 4);
        Check.due("termLength of the last of 120", x.termLength(2, 119), 5);
        for (int wrong : new int[] {-1, 120, 121, Integer.MIN_VALUE, Integer.MAX_VALUE}) {
            Check.due("termLength(2, " + wrong + ")", x.termLength(2, wrong), NONE);
        }
        Check.due("termLength in the polynomial 0", x.termLength(1, 0), NONE);
        x.clearPolynomial(2);
        Check.due("termLength of a term that was", x.termLength(2, 0), NONE);
        for (int wrong : new int[] {-1, 3, 120, Integer.MIN_VALUE, Integer.MAX_VALUE}) {
            Boundaries.unchanged("termLength(0, " + wrong + ")", y -> y.termLength(0, wrong), NONE);
        }
    }

    @Holds(in = "Promise 21", says = {"register: the register, 0 to 4", "NO_SUCH_REGISTER (checked first)"})
    static void termLengthInNoRegister() {
        ShuffleAlgebra x = Check.withPolynomials("1", "a", "aa", "aaa", "aaaa");
        for (int register = 0; register < 5; register++) {
            Check.due("termLength(" + register + ", 0)", x.termLength(register, 0), register);
        }
        for (int wrong : Boundaries.NO_REGISTERS) {
            Boundaries.unchanged("termLength(" + wrong + ", 0)", y -> y.termLength(wrong, 0), NO_SUCH_REGISTER);
            Boundaries.unchanged("no register and no term", y -> y.termLength(wrong, -1), NO_SUCH_REGISTER);
            Boundaries.unchanged("no register and no term", y -> y.termLength(wrong, 120), NO_SUCH_REGISTER);
        }
    }

    // ---- promise 22

    @Holds(in = "Promise 22", says = {"Returns a letter of the word of a term", "Returns the letter, 0 to 2"})
    static void termLetterOfEachKind() {
        ShuffleAlgebra x = Check.withPolynomials("1+a+bc+cabcabca");
        Check.due("termLetter(0, 1, 0)", x.termLetter(0, 1, 0), 0);
        Check.due("termLetter(0, 2, 0)", x.termLetter(0, 2, 0), 1);
        Check.due("termLetter(0, 2, 1)", x.termLetter(0, 2, 1), 2);
        for (int index = 0; index < 8; index++) {
            Check.due("termLetter(0, 3, " + index + ")", x.termLetter(0, 3, index), (index + 2) % 3);
        }
        Boundaries.unchanged("termLetter(3, 2, 7)", y -> y.termLetter(3, 2, 7), 2);
    }

    @Holds(in = "Promise 22", says = {"term: the number of the term", "index: the position, from 0",
        "NONE if there is no such term or position"})
    static void termLetterOfNoTermOrPosition() {
        ShuffleAlgebra x = Check.withPolynomials("1+ab+cccccccc");
        int[] far = {-1, 256, 65536, Integer.MIN_VALUE, Integer.MAX_VALUE};
        for (int wrong : far) {
            Check.due("termLetter(0, " + wrong + ", 0)", x.termLetter(0, wrong, 0), NONE);
            Check.due("termLetter(0, 1, " + wrong + ")", x.termLetter(0, 1, wrong), NONE);
            Check.due("termLetter of no term at no position", x.termLetter(0, wrong, wrong), NONE);
            Boundaries.unchanged("termLetter(0, " + wrong + ", 0)", y -> y.termLetter(0, wrong, 0), NONE);
            Boundaries.unchanged("termLetter(0, 1, " + wrong + ")", y -> y.termLetter(0, 1, wrong), NONE);
        }
        Check.due("termLetter of the term behind the last", x.termLetter(0, 3, 0), NONE);
        Check.due("termLetter of the empty word", x.termLetter(0, 0, 0), NONE);
        Check.due("termLetter behind two letters", x.termLetter(0, 1, 2), NONE);
        Check.due("termLetter behind eight letters", x.termLetter(0, 2, 8), NONE);
        Check.due("termLetter in the polynomial 0", x.termLetter(1, 0, 0), NONE);
        ShuffleAlgebra y = full();
        Check.due("termLetter of the last of 120 terms", y.termLetter(2, 119, 4), 0);
        Check.due("termLetter behind the last of 120 terms", y.termLetter(2, 120, 0), NONE);
    }

    @Holds(in = "Promise 22", says = {"register: the register, 0 to 4", "NO_SUCH_REGISTER (checked first)"})
    static void termLetterInNoRegister() {
        ShuffleAlgebra x = Check.withPolynomials("a", "b", "c", "b", "a");
        for (int register = 0; register < 5; register++) {
            Check.due("termLetter(" + register + ", 0, 0)", x.termLetter(register, 0, 0), Math.min(register, 4 - register));
        }
        for (int wrong : Boundaries.NO_REGISTERS) {
            Boundaries.unchanged("termLetter(" + wrong + ", 0, 0)", y -> y.termLetter(wrong, 0, 0), NO_SUCH_REGISTER);
            Boundaries.unchanged("no register and no term", y -> y.termLetter(wrong, -1, 0), NO_SUCH_REGISTER);
            Boundaries.unchanged("no register and no position", y -> y.termLetter(wrong, 0, 8), NO_SUCH_REGISTER);
        }
    }

    // ---- promise 23

    @Holds(in = "Promise 23", says = {"Returns the coefficient of a term", "Returns the coefficient"})
    static void termCoefficientFromLeastToMost() {
        ShuffleAlgebra x = Check.withPolynomials("-1000000-a+b+1000000cccccccc");
        long[] wants = {-1000000, -1, 1, 1000000};
        for (int term = 0; term < wants.length; term++) {
            Check.due("termCoefficient(0, " + term + ")", x.termCoefficient(0, term), wants[term]);
        }
        Boundaries.unchanged("termCoefficient(1, 0)", y -> y.termCoefficient(1, 0), -1000000);
    }

    @Holds(in = "Promise 23", says = {"register: the register, 0 to 4", "term: the number of the term",
        "NO_VALUE if there is no such register or term"})
    static void termCoefficientOfNoTerm() {
        ShuffleAlgebra x = fiveRegisters();
        for (int register = 0; register < 5; register++) {
            Check.due("termCoefficient(" + register + ", 0)", x.termCoefficient(register, 0), register + 1);
            for (int wrong : new int[] {-1, 1, 120, Integer.MIN_VALUE, Integer.MAX_VALUE}) {
                Check.due("termCoefficient of no term", x.termCoefficient(register, wrong), NO_VALUE);
            }
        }
        Check.due("termCoefficient in the polynomial 0", new ShuffleAlgebra().termCoefficient(0, 0), NO_VALUE);
        ShuffleAlgebra y = full();
        Check.due("termCoefficient of the last of 120", y.termCoefficient(2, 119), 1);
        Check.due("termCoefficient behind the last of 120", y.termCoefficient(2, 120), NO_VALUE);
        for (int wrong : new int[] {-1, 3, 120, Integer.MIN_VALUE, Integer.MAX_VALUE}) {
            Boundaries.unchanged("termCoefficient(0, " + wrong + ")", z -> z.termCoefficient(0, wrong), NO_VALUE);
        }
        for (int wrong : Boundaries.NO_REGISTERS) {
            Boundaries.unchanged("termCoefficient(" + wrong + ", 0)", z -> z.termCoefficient(wrong, 0), NO_VALUE);
            Boundaries.unchanged("no register and no term", z -> z.termCoefficient(wrong, -1), NO_VALUE);
        }
    }
}
