/** Promises 17 to 32: the registers, one promise after another. */
public final class PolynomialTest {
    private static final int NO_SUCH_REGISTER = ShuffleAlgebra.NO_SUCH_REGISTER;
    private static final int NO_SUCH_WORD = ShuffleAlgebra.NO_SUCH_WORD;
    private static final int NO_SUCH_LETTER = ShuffleAlgebra.NO_SUCH_LETTER;
    private static final int BAD_VALUE = ShuffleAlgebra.BAD_VALUE;
    private static final int FULL = ShuffleAlgebra.FULL;
    private static final int TOO_LONG = ShuffleAlgebra.TOO_LONG;
    private static final int OVERFLOW = ShuffleAlgebra.OVERFLOW;
    private static final int NONE = ShuffleAlgebra.NONE;
    private static final long NO_VALUE = ShuffleAlgebra.NO_VALUE;
    private static final int[] NO_WORDS = {-1, 3, Integer.MIN_VALUE, Integer.MAX_VALUE};
    private static final int[] NO_LETTERS = {-1, 3, Integer.MIN_VALUE, Integer.MAX_VALUE};
    private static final int[] NO_REGISTERS = {-1, 5, Integer.MIN_VALUE, Integer.MAX_VALUE};

    public static void main(String[] args) {
        promise17ClearPolynomial();
        promise18AddTerm();
        promise19Coefficient();
        promise20TermCount();
        promise21TermLength();
        promise22TermLetter();
        promise23TermCoefficient();
        promise24Add();
        promise25Scale();
        promise26Products();
        promise26Errors();
        promise27Antipode();
        promise28Residual();
        promise29Derive();
        promise30Pair();
        promise31Coordinates();
        promise31Limits();
        promise31OnTheWay();
        promise32IsLie();
        Check.finish();
    }

    private static void addWords(ShuffleAlgebra x, int register, int count) {
        for (int i = 0; i < count; i++) {
            Check.setWord(x, 0, Check.fiveLetters(i));
            Check.due("addTerm", x.addTerm(register, 0, 1), i + 1);
        }
    }

    private static void promise17ClearPolynomial() {
        ShuffleAlgebra x = Check.withPolynomials("1+a+ab", "b");
        Check.due("clearPolynomial", x.clearPolynomial(0), 3);
        Check.due("clearPolynomial again", x.clearPolynomial(0), 0);
        String before = Check.state(x);
        Check.due("the registers", before, ",,,[][1*b][][][]");
        for (int wrong : NO_REGISTERS) {
            Check.due("clearPolynomial of no register", x.clearPolynomial(wrong), NO_SUCH_REGISTER);
        }
        Check.due("state after errors", Check.state(x), before);
    }

    private static void promise18AddTerm() {
        ShuffleAlgebra x = Check.withWords("ab", "", "b");
        Check.due("addTerm", x.addTerm(0, 0, 5), 1);
        Check.due("addTerm of the empty word", x.addTerm(0, 1, -1000000), 2);
        Check.due("addTerm between", x.addTerm(0, 2, 1000000), 3);
        Check.due("the terms", Check.polynomial(x, 0), "-1000000* 1000000*b 5*ab");
        Check.due("addTerm to a term", x.addTerm(0, 0, -3), 3);
        Check.due("addTerm of 0", x.addTerm(0, 0, 0), 3);
        Check.due("the terms", Check.polynomial(x, 0), "-1000000* 1000000*b 2*ab");
        Check.due("addTerm that cancels", x.addTerm(0, 2, -1000000), 2);
        Check.due("addTerm of 0 to no term", x.addTerm(0, 2, 0), 2);
        Check.due("the terms", Check.polynomial(x, 0), "-1000000* 2*ab");
        String before = Check.state(x);
        Check.due("addTerm out of range", x.addTerm(0, 1, -1), OVERFLOW);
        for (int wrong : new int[] {1000001, -1000001, Integer.MIN_VALUE, Integer.MAX_VALUE}) {
            Check.due("addTerm, coefficient before sum", x.addTerm(0, 1, wrong), BAD_VALUE);
            Check.due("addTerm, word before coefficient", x.addTerm(0, 3, wrong), NO_SUCH_WORD);
            Check.due("addTerm, register before word", x.addTerm(5, 3, wrong), NO_SUCH_REGISTER);
        }
        for (int wrong : NO_REGISTERS) {
            Check.due("addTerm to no register", x.addTerm(wrong, 0, 1), NO_SUCH_REGISTER);
        }
        for (int wrong : NO_WORDS) {
            Check.due("addTerm of no word", x.addTerm(0, wrong, 1), NO_SUCH_WORD);
        }
        Check.due("state after errors", Check.state(x), before);
        addTermsToTheLimit();
    }

    private static void addTermsToTheLimit() {
        ShuffleAlgebra x = new ShuffleAlgebra();
        addWords(x, 0, 120);
        String before = Check.polynomial(x, 0);
        Check.due("addTerm of the empty word to 120 terms", x.addTerm(0, 1, 1), FULL);
        Check.setWord(x, 0, Check.fiveLetters(120));
        Check.due("addTerm of a 121st word", x.addTerm(0, 0, -1000000), FULL);
        Check.due("addTerm of 0 times a 121st word", x.addTerm(0, 0, 0), 120);
        Check.due("the terms", Check.polynomial(x, 0), before);
        Check.setWord(x, 0, Check.fiveLetters(119));
        Check.due("addTerm, a sum out of range in a full register", x.addTerm(0, 0, 1000000), OVERFLOW);
        Check.due("addTerm to a term of 120", x.addTerm(0, 0, 999999), 120);
        Check.due("addTerm that takes a term of 120", x.addTerm(0, 0, -1000000), 119);
        Check.due("addTerm into the free place", x.addTerm(0, 1, 7), 120);
        Check.due("the first term", x.termCoefficient(0, 0), 7);
    }

    private static void promise19Coefficient() {
        ShuffleAlgebra x = Check.withPolynomials("4-3a+cab-1000000cccccccc");
        Check.setWord(x, 0, "cab");
        Check.setWord(x, 1, "cccccccc");
        Check.due("coefficient", x.coefficient(0, 0), 1);
        Check.due("coefficient", x.coefficient(0, 1), -1000000);
        Check.due("coefficient of the empty word", x.coefficient(0, 2), 4);
        Check.due("coefficient in 0", x.coefficient(1, 2), 0);
        Check.setWord(x, 2, "ca");
        Check.due("coefficient of no term", x.coefficient(0, 2), 0);
        for (int wrong : NO_REGISTERS) {
            Check.due("coefficient in no register", x.coefficient(wrong, 0), NO_VALUE);
        }
        for (int wrong : NO_WORDS) {
            Check.due("coefficient of no word", x.coefficient(0, wrong), NO_VALUE);
        }
    }

    private static void promise20TermCount() {
        ShuffleAlgebra x = Check.withPolynomials("1-a+a-b", "0");
        Check.due("termCount", x.termCount(0), 2);
        Check.due("termCount of 0", x.termCount(1), 0);
        addWords(x, 4, 120);
        Check.due("termCount of the longest", x.termCount(4), 120);
        for (int wrong : NO_REGISTERS) {
            Check.due("termCount of no register", x.termCount(wrong), NO_SUCH_REGISTER);
        }
    }

    private static void promise21TermLength() {
        ShuffleAlgebra x = Check.withPolynomials("cccccccc+aab+b+2");
        int[] lengths = {0, 1, 3, 8};
        for (int i = 0; i < lengths.length; i++) {
            Check.due("termLength", x.termLength(0, i), lengths[i]);
        }
        for (int wrong : new int[] {-1, 4, 120, Integer.MIN_VALUE, Integer.MAX_VALUE}) {
            Check.due("termLength of no term", x.termLength(0, wrong), NONE);
            Check.due("termLength, register before term", x.termLength(5, wrong), NO_SUCH_REGISTER);
        }
        Check.due("termLength in 0", x.termLength(1, 0), NONE);
        for (int wrong : NO_REGISTERS) {
            Check.due("termLength in no register", x.termLength(wrong, 0), NO_SUCH_REGISTER);
        }
    }

    private static void promise22TermLetter() {
        ShuffleAlgebra x = Check.withPolynomials("abcabcca+cb+2");
        Check.due("termLetter", x.termLetter(0, 1, 0), 2);
        Check.due("termLetter", x.termLetter(0, 1, 1), 1);
        int[] letters = {0, 1, 2, 0, 1, 2, 2, 0};
        for (int i = 0; i < letters.length; i++) {
            Check.due("termLetter", x.termLetter(0, 2, i), letters[i]);
        }
        Check.due("termLetter behind the word", x.termLetter(0, 1, 2), NONE);
        Check.due("termLetter behind 8 letters", x.termLetter(0, 2, 8), NONE);
        Check.due("termLetter of the empty word", x.termLetter(0, 0, 0), NONE);
        for (int wrong : new int[] {-1, 3, Integer.MIN_VALUE, Integer.MAX_VALUE}) {
            Check.due("termLetter at no position", x.termLetter(0, 1, wrong), NONE);
            Check.due("termLetter of no term", x.termLetter(0, wrong, 0), NONE);
            Check.due("termLetter, register first", x.termLetter(-1, wrong, wrong), NO_SUCH_REGISTER);
        }
        for (int wrong : NO_REGISTERS) {
            Check.due("termLetter in no register", x.termLetter(wrong, 1, 0), NO_SUCH_REGISTER);
        }
    }

    private static void promise23TermCoefficient() {
        ShuffleAlgebra x = Check.withPolynomials("1000000c-ba+7");
        long[] numbers = {7, 1000000, -1};
        for (int i = 0; i < numbers.length; i++) {
            Check.due("termCoefficient", x.termCoefficient(0, i), numbers[i]);
        }
        for (int wrong : new int[] {-1, 3, Integer.MIN_VALUE, Integer.MAX_VALUE}) {
            Check.due("termCoefficient of no term", x.termCoefficient(0, wrong), NO_VALUE);
        }
        for (int wrong : NO_REGISTERS) {
            Check.due("termCoefficient in no register", x.termCoefficient(wrong, 0), NO_VALUE);
        }
    }

    private static void promise24Add() {
        ShuffleAlgebra x = Check.withPolynomials("1+2a-bc", "-1+a+b+bc", "700000c", "-300001c");
        Check.due("add", x.add(0, 1, 4), 2);
        Check.due("the sum", Check.polynomial(x, 4), "3*a 1*b");
        Check.due("the first", Check.polynomial(x, 0), "1* 2*a -1*bc");
        Check.due("the second", Check.polynomial(x, 1), "-1* 1*a 1*b 1*bc");
        Check.due("add to the first", x.add(0, 1, 0), 2);
        Check.due("the sum", Check.polynomial(x, 0), "3*a 1*b");
        Check.due("add to the second", x.add(0, 1, 1), 4);
        Check.due("the sum", Check.polynomial(x, 1), "-1* 4*a 2*b 1*bc");
        Check.due("add to itself", x.add(1, 1, 1), 4);
        Check.due("the sum", Check.polynomial(x, 1), "-2* 8*a 4*b 2*bc");
        Check.due("add within range", x.add(2, 3, 4), 1);
        Check.due("the sum", Check.polynomial(x, 4), "399999*c");
        String before = Check.state(x);
        Check.due("add out of range", x.add(2, 2, 4), OVERFLOW);
        for (int wrong : NO_REGISTERS) {
            Check.due("add without first", x.add(wrong, 2, 2), NO_SUCH_REGISTER);
            Check.due("add without second", x.add(2, wrong, 2), NO_SUCH_REGISTER);
            Check.due("add, register before range", x.add(2, 2, wrong), NO_SUCH_REGISTER);
        }
        Check.due("state after errors", Check.state(x), before);
        addToTheLimits();
    }

    private static void addToTheLimits() {
        ShuffleAlgebra x = Check.withPolynomials("0", "1000000", "-1000000", "500000b-500000c", "c");
        addWords(x, 0, 120);
        Check.due("add of 1000000 and 0", x.add(3, 3, 3), 2);
        Check.due("the sum", Check.polynomial(x, 3), "1000000*b -1000000*c");
        String before = Check.state(x);
        Check.due("add with 121 terms", x.add(0, 4, 4), FULL);
        Check.due("add with 121 terms to the first", x.add(0, 4, 0), FULL);
        Check.due("add out of range below", x.add(2, 2, 4), OVERFLOW);
        Check.due("state after errors", Check.state(x), before);
        Check.due("add that cancels", x.add(1, 2, 4), 0);
        Check.setWord(x, 0, Check.fiveLetters(0));
        Check.due("addTerm", x.addTerm(4, 0, 1000000), 1);
        Check.setWord(x, 0, "c");
        Check.due("addTerm", x.addTerm(4, 0, 1), 2);
        Check.due("add, range before room", x.add(0, 4, 1), OVERFLOW);
    }

    private static void promise25Scale() {
        ShuffleAlgebra x = Check.withPolynomials("1-2a+1000ab", "1001c");
        Check.due("scale", x.scale(0, -1000, 2), 3);
        Check.due("the result", Check.polynomial(x, 2), "-1000* 2000*a -1000000*ab");
        Check.due("scale by 1000", x.scale(0, 1000, 0), 3);
        Check.due("the result", Check.polynomial(x, 0), "1000* -2000*a 1000000*ab");
        Check.due("scale by 1", x.scale(0, 1, 0), 3);
        String before = Check.state(x);
        Check.due("scale out of range", x.scale(1, 1000, 2), OVERFLOW);
        Check.due("scale out of range below", x.scale(0, -2, 0), OVERFLOW);
        for (int wrong : new int[] {1001, -1001, Integer.MIN_VALUE, Integer.MAX_VALUE}) {
            Check.due("scale, factor before range", x.scale(0, wrong, 0), BAD_VALUE);
            Check.due("scale, register before factor", x.scale(5, wrong, 0), NO_SUCH_REGISTER);
            Check.due("scale, target before factor", x.scale(0, wrong, 5), NO_SUCH_REGISTER);
        }
        for (int wrong : NO_REGISTERS) {
            Check.due("scale of no register", x.scale(wrong, 1, 0), NO_SUCH_REGISTER);
            Check.due("scale to no register", x.scale(0, 1, wrong), NO_SUCH_REGISTER);
        }
        Check.due("state after errors", Check.state(x), before);
        Check.due("scale by 0", x.scale(0, 0, 1), 0);
        Check.due("the result", Check.polynomial(x, 1), "");
    }

    private static void promise26Products() {
        dueProducts("a", "a", "aa", "2aa", "a+2aa");
        dueProducts("ab", "c", "abc", "abc+acb+cab", "abc+acb+cab");
        dueProducts("ab", "a", "aba", "2aab+aba", "ab+2aab+aba");
        dueProducts("ab", "ab", "abab", "4aabb+2abab", "ab+2aab+2abb+4aabb+2abab");
        dueProducts("2+a", "3-b", "6+3a-2b-ab", "6+3a-2b-ab-ba", "6+3a-2b-ab-ba");
        dueProducts("1", "abcabcab", "abcabcab", "abcabcab", "abcabcab");
        dueProducts("abcabcab", "-2", "-2abcabcab", "-2abcabcab", "-2abcabcab");
        dueProducts("a-b", "a+b", "aa+ab-ba-bb", "2aa-2bb", "a-b+2aa-2bb");
        dueProducts("0", "abcabcab", "0", "0", "0");
        dueProducts("aaaa", "aaaa", "aaaaaaaa", "70aaaaaaaa", "aaaa+20aaaaa+90aaaaaa+140aaaaaaa+70aaaaaaaa");
        ShuffleAlgebra x = Check.withPolynomials("a", "b", "c");
        Check.due("multiply to the first", x.multiply(0, 0, 1, 0), 1);
        Check.due("the product", Check.polynomial(x, 0), "1*ab");
        Check.due("multiply to the second", x.multiply(1, 0, 2, 2), 3);
        Check.due("the product", Check.polynomial(x, 2), "1*abc 1*acb 1*cab");
        Check.due("multiply of itself", x.multiply(2, 1, 1, 1), 2);
        Check.due("the product", Check.polynomial(x, 1), "1*b 2*bb");
    }

    private static void dueProducts(String p, String q, String... wants) {
        for (int kind = 0; kind < wants.length; kind++) {
            ShuffleAlgebra x = Check.withPolynomials(p, q);
            String call = "multiply " + kind + " of " + p + " and " + q;
            Check.due(call, x.multiply(kind, 0, 1, 2), x.termCount(2));
            Check.due(call, Check.written(x, 2), wants[kind]);
        }
    }

    private static void promise26Errors() {
        ShuffleAlgebra x = Check.withPolynomials("aaaab+1000000", "abab+2000", "0", "aaaaaaaa-aaaaaaab", "1");
        String before = Check.state(x);
        for (int kind = 0; kind < 3; kind++) {
            Check.due("multiply, length before range", x.multiply(kind, 0, 1, 4), TOO_LONG);
            Check.due("multiply out of range", x.multiply(kind, 1, 1, 4), OVERFLOW);
            for (int wrong : NO_REGISTERS) {
                Check.due("multiply without first", x.multiply(kind, wrong, 0, 0), NO_SUCH_REGISTER);
                Check.due("multiply without second", x.multiply(kind, 0, wrong, 0), NO_SUCH_REGISTER);
                Check.due("multiply without target", x.multiply(kind, 0, 0, wrong), NO_SUCH_REGISTER);
            }
        }
        for (int wrong : new int[] {-1, 3, Integer.MIN_VALUE, Integer.MAX_VALUE}) {
            Check.due("multiply, kind before register", x.multiply(wrong, 5, 5, 5), BAD_VALUE);
            Check.due("multiply of no kind", x.multiply(wrong, 4, 4, 4), BAD_VALUE);
        }
        Check.due("state after errors", Check.state(x), before);
        for (int kind = 0; kind < 3; kind++) {
            Check.due("multiply by 0 of 8 letters", x.multiply(kind, 2, 3, 4), 0);
            Check.due("multiply of 8 letters by 0", x.multiply(kind, 3, 2, 4), 0);
        }
        multiplyToTheLimits();
        tooLong();
    }

    private static void multiplyToTheLimits() {
        String fifteen = "a+b+c+aa+ab+ac+ba+bb+bc+ca+cb+cc+aaa+aab+aac";
        ShuffleAlgebra x = Check.withPolynomials(fifteen, "1+aaaa+aaab+aaac+abaa+abab+abac+baaa", "1000a", "1000a+b");
        Check.due("multiply with 120 terms", x.multiply(0, 0, 1, 4), 120);
        Check.setWord(x, 0, "cccc");
        Check.due("addTerm", x.addTerm(1, 0, 1), 9);
        String before = Check.state(x);
        Check.due("multiply with 135 terms", x.multiply(0, 0, 1, 4), FULL);
        Check.due("multiply with 135 terms", x.multiply(1, 0, 1, 0), FULL);
        Check.due("multiply, shuffle out of range", x.multiply(1, 2, 2, 4), OVERFLOW);
        Check.due("multiply, infiltration out of range", x.multiply(2, 2, 3, 4), OVERFLOW);
        Check.due("state after errors", Check.state(x), before);
        Check.due("multiply up to 1000000", x.multiply(0, 2, 2, 4), 1);
        Check.due("the product", Check.polynomial(x, 4), "1000000*aa");
        Check.setWord(x, 0, "a");
        Check.due("addTerm", x.addTerm(0, 0, 999999), 15);
        Check.setWord(x, 0, "");
        Check.due("addTerm", x.addTerm(1, 0, 1), 9);
        Check.due("multiply, range before room", x.multiply(0, 0, 1, 4), OVERFLOW);
    }

    /** The longest words of both count, also where the commutators or the overlaps leave shorter ones. */
    private static void tooLong() {
        ShuffleAlgebra x = Check.withPolynomials("ab-ba+aaaaa", "ab-ba", "cccc");
        Check.due("multiply with 9 letters", x.multiply(0, 0, 2, 4), TOO_LONG);
        Check.due("multiply with 9 letters", x.multiply(1, 2, 0, 4), TOO_LONG);
        Check.due("multiply with 9 letters", x.multiply(2, 2, 0, 4), TOO_LONG);
        Check.due("multiply with 9 letters, though all may overlap", x.multiply(2, 0, 0, 4), TOO_LONG);
        Check.due("multiply with 8 letters", x.multiply(0, 2, 2, 4), 1);
        Check.due("multiply with 7 letters", x.multiply(0, 0, 1, 4), 6);
    }

    private static void promise27Antipode() {
        ShuffleAlgebra x = Check.withPolynomials("3-a+2ab+5cab-7aabc+abcabcab");
        Check.due("antipode", x.antipode(0, 1), 6);
        Check.due("the result", Check.polynomial(x, 1), "3* 1*a 2*ba -5*bac -7*cbaa 1*bacbacba");
        Check.due("the source", Check.polynomial(x, 0), "3* -1*a 2*ab 5*cab -7*aabc 1*abcabcab");
        Check.due("antipode of itself", x.antipode(1, 1), 6);
        Check.due("the result", Check.polynomial(x, 1), Check.polynomial(x, 0));
        Check.due("antipode of 0", x.antipode(2, 1), 0);
        String before = Check.state(x);
        for (int wrong : NO_REGISTERS) {
            Check.due("antipode of no register", x.antipode(wrong, 0), NO_SUCH_REGISTER);
            Check.due("antipode to no register", x.antipode(0, wrong), NO_SUCH_REGISTER);
        }
        Check.due("state after errors", Check.state(x), before);
    }

    private static void promise28Residual() {
        ShuffleAlgebra x = Check.withPolynomials("3+4a-b+2ab+5cab-7aabc+6abcabcab");
        Check.due("residual at the beginning", x.residual(0, 0, 0, 1), 4);
        Check.due("the result", Check.polynomial(x, 1), "4* 2*b -7*abc 6*bcabcab");
        Check.due("residual at the end", x.residual(1, 0, 1, 1), 4);
        Check.due("the result", Check.polynomial(x, 1), "-1* 2*a 5*ca 6*abcabca");
        Check.due("residual of 0", x.residual(0, 4, 1, 1), 0);
        String before = Check.state(x);
        for (int wrong : new int[] {-1, 2, Integer.MIN_VALUE, Integer.MAX_VALUE}) {
            Check.due("residual, side before register", x.residual(wrong, 5, 3, 5), BAD_VALUE);
            Check.due("residual at no side", x.residual(wrong, 0, 0, 0), BAD_VALUE);
        }
        for (int wrong : NO_REGISTERS) {
            Check.due("residual of no register", x.residual(0, wrong, 0, 0), NO_SUCH_REGISTER);
            Check.due("residual, register before letter", x.residual(0, wrong, 3, 0), NO_SUCH_REGISTER);
            Check.due("residual, target before letter", x.residual(1, 0, 3, wrong), NO_SUCH_REGISTER);
        }
        for (int wrong : NO_LETTERS) {
            Check.due("residual of no letter", x.residual(0, 0, wrong, 0), NO_SUCH_LETTER);
            Check.due("residual of no letter", x.residual(1, 0, wrong, 0), NO_SUCH_LETTER);
        }
        Check.due("state after errors", Check.state(x), before);
        Check.due("residual of itself", x.residual(1, 0, 2, 0), 1);
        Check.due("the result", Check.polynomial(x, 0), "-7*aab");
    }

    private static void promise29Derive() {
        ShuffleAlgebra x = Check.withPolynomials("9+a+3aab-ba+2c+aaaaaaaa", "600000aa", "0", "abc-acb");
        Check.due("derive", x.derive(0, 0, 4), 4);
        Check.due("the result", Check.polynomial(x, 4), "1* -1*b 6*ab 8*aaaaaaa");
        Check.due("derive, terms that cancel", x.derive(3, 0, 4), 2);
        Check.due("derive, terms that cancel", x.derive(4, 1, 4), 0);
        Check.due("derive of 0", x.derive(2, 0, 4), 0);
        String before = Check.state(x);
        Check.due("derive out of range", x.derive(1, 0, 4), OVERFLOW);
        for (int wrong : NO_LETTERS) {
            Check.due("derive, letter before range", x.derive(1, wrong, 4), NO_SUCH_LETTER);
            Check.due("derive, register before letter", x.derive(5, wrong, 4), NO_SUCH_REGISTER);
            Check.due("derive, target before letter", x.derive(1, wrong, 5), NO_SUCH_REGISTER);
        }
        for (int wrong : NO_REGISTERS) {
            Check.due("derive of no register", x.derive(wrong, 0, 0), NO_SUCH_REGISTER);
            Check.due("derive to no register", x.derive(0, 0, wrong), NO_SUCH_REGISTER);
        }
        Check.due("state after errors", Check.state(x), before);
        Check.due("derive of itself", x.derive(0, 2, 0), 1);
        Check.due("the result", Check.polynomial(x, 0), "2*");
        deriveToTheLimits();
    }

    /** The words that get an a at two places become words without it: 120 of them give up to 240. */
    private static void deriveToTheLimits() {
        ShuffleAlgebra x = new ShuffleAlgebra();
        int terms = 0;
        for (int i = 0; i < 128 && terms < 120; i++) {
            String bits = Integer.toBinaryString(128 + i).substring(1).replace('0', 'b').replace('1', 'c');
            Check.setWord(x, 0, bits.substring(0, 4) + "a" + bits.substring(4));
            terms = x.addTerm(0, 0, 1);
        }
        Check.due("derive with 120 terms", x.derive(0, 0, 1), 120);
        Check.setWord(x, 0, "bbbbabbb");
        x.addTerm(0, 0, -1);
        Check.setWord(x, 0, "bcaccbba");
        Check.due("derive with 121 terms, before", x.addTerm(0, 0, 1), 120);
        String before = Check.state(x);
        Check.due("derive with 121 terms", x.derive(0, 0, 1), FULL);
        Check.due("derive of itself with 121 terms", x.derive(0, 0, 0), FULL);
        Check.due("state after errors", Check.state(x), before);
        Check.setWord(x, 0, "abbbbbbb");
        Check.due("addTerm in place of another", x.addTerm(0, 0, 1), FULL);
        Check.setWord(x, 0, "bbbbabbc");
        Check.due("addTerm", x.addTerm(0, 0, -1), 119);
        Check.setWord(x, 0, "aabbbbbc");
        Check.due("addTerm", x.addTerm(0, 0, 1000000), 120);
        Check.due("derive, range before room", x.derive(0, 0, 1), OVERFLOW);
    }

    private static void promise30Pair() {
        ShuffleAlgebra x = Check.withPolynomials("2+3a-ab", "5-a+7ab+c", "b+cc", "0", "1000000a-1000000abcabcab");
        Check.due("pair", x.pair(0, 1), 10 - 3 - 7);
        Check.due("pair, the other way", x.pair(1, 0), 0);
        Check.due("pair of itself", x.pair(0, 0), 14);
        Check.due("pair without common words", x.pair(0, 2), 0);
        Check.due("pair with 0", x.pair(0, 3), 0);
        Check.due("pair of large numbers", x.pair(4, 4), 2000000000000L);
        Check.due("pair below 0", x.pair(1, 4), -1000000);
        for (int wrong : NO_REGISTERS) {
            Check.due("pair without first", x.pair(wrong, 0), NO_VALUE);
            Check.due("pair without second", x.pair(0, wrong), NO_VALUE);
        }
    }

    private static void promise31Coordinates() {
        dueCoordinates("0", "0");
        dueCoordinates("-7", "-7");
        dueCoordinates("4+ba", "4-ab+ba");
        dueCoordinates("aab+aba+baa", "baa");
        dueCoordinates("2aabb+abab", "abab");
        dueCoordinates("-c+2ab+aab", "-c+2ab+aab");
        dueCoordinates("abc+acb+bac+bca+cab+cba", "cba");
        dueCoordinates("aaaaaaaa", "aaaaaaaa");
        ShuffleAlgebra x = Check.withPolynomials("ba+c", "bab", "5");
        Check.due("coordinates of itself", x.coordinates(0, 0), 3);
        Check.due("the result", Check.written(x, 0), "c-ab+ba");
        Check.due("coordinates to another", x.coordinates(1, 2), 2);
        Check.due("the result", Check.written(x, 2), "-2abb+bab");
        Check.due("the source", Check.written(x, 1), "bab");
    }

    private static void dueCoordinates(String text, String want) {
        ShuffleAlgebra x = Check.withPolynomials(text);
        Check.due("coordinates of " + text, x.coordinates(0, 1), x.termCount(1));
        Check.due("coordinates of " + text, Check.written(x, 1), want);
        Check.due("the source", Check.written(x, 0), text);
    }

    private static void promise31Limits() {
        ShuffleAlgebra x = Check.withPolynomials("cacbabca", "1000000bab", "500000bab", "cbaccaba+c+b");
        String before = Check.state(x);
        Check.due("coordinates with 121 terms", x.coordinates(3, 4), FULL);
        Check.due("coordinates with too many terms", x.coordinates(0, 3), FULL);
        Check.due("coordinates of itself with too many terms", x.coordinates(0, 0), FULL);
        Check.due("coordinates out of range", x.coordinates(1, 3), OVERFLOW);
        for (int wrong : NO_REGISTERS) {
            Check.due("coordinates, register before range", x.coordinates(1, wrong), NO_SUCH_REGISTER);
            Check.due("coordinates of no register", x.coordinates(wrong, 0), NO_SUCH_REGISTER);
        }
        Check.due("state after errors", Check.state(x), before);
        Check.due("coordinates up to 1000000", x.coordinates(2, 4), 2);
        Check.due("the result", Check.polynomial(x, 4), "-1000000*abb 500000*bab");
        Check.setWord(x, 0, "bab");
        Check.due("addTerm", x.addTerm(0, 0, 1000000), 2);
        Check.due("coordinates, range before room", x.coordinates(0, 3), OVERFLOW);
        Check.setWord(x, 0, "c");
        Check.due("addTerm that takes a term", x.addTerm(3, 0, -1), 2);
        Check.due("coordinates with 120 terms", x.coordinates(3, 4), 120);
    }

    /** The basis polynomial of the first word has 560 terms; in the second text aaab passes through -3000000. */
    private static void promise31OnTheWay() {
        ShuffleAlgebra x = Check.withPolynomials("ccbbbaaa");
        Check.due("coordinates with many terms on the way", x.coordinates(0, 4), 40);
        dueCoordinates("1000000aaba+1000000abaa", "-1000000aaba+1000000abaa");
    }

    private static void promise32IsLie() {
        String[] lie = {"0", "a", "a-2b+7c", "ab-ba", "aab-2aba+baa", "c+3ab-3ba+abc-acb-bca+cba",
            "1000000ab-1000000ba"};
        for (String text : lie) {
            Check.due("isLie of " + text, Check.withPolynomials(text).isLie(0), 1);
        }
        String[] others = {"1", "a+1", "aa", "ab", "ab+ba", "ab-ba+aa", "aab-aba", "a+aab-2aba+baa-1",
            "ab-ba+abc", "aaaaaaaa", "2ab-ba-ab+aaa"};
        for (String text : others) {
            Check.due("isLie of " + text, Check.withPolynomials(text).isLie(0), 0);
        }
        for (int wrong : NO_REGISTERS) {
            Check.due("isLie of no register", new ShuffleAlgebra().isLie(wrong), NO_SUCH_REGISTER);
        }
        ShuffleAlgebra x = Check.busy();
        String before = Check.state(x);
        Check.due("isLie", x.isLie(0), 0);
        Check.due("isLie", x.isLie(1), 1);
        Check.due("state after questions", Check.state(x), before);
        Check.due("a result behind isLie", x.add(1, 1, 1), 2);
    }
}
