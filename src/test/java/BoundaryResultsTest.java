/** Promises 27 to 32: the boundary cases that the document names for the other results, sentence by sentence. */
public final class BoundaryResultsTest {
    private static final int NO_SUCH_REGISTER = ShuffleAlgebra.NO_SUCH_REGISTER;
    private static final int NO_SUCH_LETTER = ShuffleAlgebra.NO_SUCH_LETTER;
    private static final int BAD_VALUE = ShuffleAlgebra.BAD_VALUE;
    private static final int FULL = ShuffleAlgebra.FULL;
    private static final int OVERFLOW = ShuffleAlgebra.OVERFLOW;
    private static final long NO_VALUE = ShuffleAlgebra.NO_VALUE;
    private static final int[] NO_SIDES = {-1, 2, 256, 65536, Integer.MIN_VALUE, Integer.MAX_VALUE};
    private static final String COORDINATES_120 = "b+cbaccaba";
    private static final String COORDINATES_121 = "b+c+cbaccaba";

    interface FromTo {
        int on(ShuffleAlgebra x, int register, int target);
    }

    public static void main(String[] args) throws ReflectiveOperationException {
        Boundaries.run(BoundaryResultsTest.class);
    }

    /** Every register as source and as target, the same one too. */
    private static void dueFromEachToEach(String call, FromTo made, String[] polynomials, String[] wants) {
        for (int register = 0; register < 5; register++) {
            for (int target = 0; target < 5; target++) {
                ShuffleAlgebra x = Check.withPolynomials(polynomials);
                int answer = made.on(x, register, target);
                Check.due(call, answer, x.termCount(target));
                for (int i = 0; i < 5; i++) {
                    String name = "register " + i + " behind " + call + " from " + register + " to " + target;
                    Check.due(name, Check.written(x, i), i == target ? wants[register] : polynomials[i]);
                }
            }
        }
    }

    // ---- promise 27

    @Holds(in = "Promise 27", says = {"Replaces every word by its reverse, and its coefficient by the opposite number if the"
            + " word has an odd number of letters", "Returns the number of terms"})
    static void antipodeFromNoneToFull() {
        Boundaries.result("antipode of 0", x -> x.antipode(0, 4), "0", "0");
        Boundaries.result("antipode of the empty word", x -> x.antipode(0, 4), "-1000000", "-1000000");
        Boundaries.result("antipode of each length", x -> x.antipode(0, 4), "1-a+ba-caa+baaa-caaaa+baaaaa-caaaaaa+baaaaaaa",
                "1+a+ab+aac+aaab+aaaac+aaaaab+aaaaaac+aaaaaaab");
        Boundaries.result("antipode at the range", x -> x.antipode(0, 4), "-1000000a+1000000b", "1000000a-1000000b");
        ShuffleAlgebra x = new ShuffleAlgebra();
        Boundaries.fill(x, 2, 0);
        String before = Check.polynomial(x, 2);
        Check.due("antipode of 120 terms", x.antipode(2, 2), 120);
        Check.due("antipode of 120 terms again", x.antipode(2, 2), 120);
        Check.due("the terms", Check.polynomial(x, 2), before);
    }

    @Holds(in = "Promise 27", says = {"register: the register, 0 to 4", "target: the register that gets the result, 0 to 4",
        "it may be the source", "NO_SUCH_REGISTER if a register does not exist"})
    static void antipodeOfNoRegister() {
        dueFromEachToEach("antipode", ShuffleAlgebra::antipode, new String[] {"a", "ab", "c-abc", "4", "5bb"},
                new String[] {"-a", "ba", "-c+cba", "4", "5bb"});
        for (int wrong : Boundaries.NO_REGISTERS) {
            Boundaries.unchanged("antipode(" + wrong + ", 0)", x -> x.antipode(wrong, 0), NO_SUCH_REGISTER);
            Boundaries.unchanged("antipode(0, " + wrong + ")", x -> x.antipode(0, wrong), NO_SUCH_REGISTER);
            Boundaries.unchanged("antipode of no registers", x -> x.antipode(wrong, wrong), NO_SUCH_REGISTER);
        }
    }

    // ---- promise 28

    @Holds(in = "Promise 28", says = {"Keeps the terms whose words begin or end with a letter, and removes that letter from"
            + " these words", "Returns the number of terms of the result"})
    static void residualFromNoneToFull() {
        Boundaries.result("residual of 0", x -> x.residual(0, 0, 0, 4), "0", "0");
        Boundaries.result("residual that keeps no term", x -> x.residual(0, 0, 0, 4), "0", "1+ba+caaaaaaa");
        Boundaries.result("residual that keeps no term", x -> x.residual(1, 0, 2, 4), "0", "1+cb+ccccccca");
        Boundaries.result("residual at the range", x -> x.residual(0, 0, 1, 4), "-1000000+1000000ccccccc",
                "-1000000b+1000000bccccccc");
        ShuffleAlgebra x = Check.withPolynomials("0", "c");
        Boundaries.fill(x, 2, 0);
        Check.due("c before 120 words", x.multiply(ShuffleAlgebra.CONCATENATION, 1, 2, 3), 120);
        Check.due("residual of 120 terms", x.residual(0, 3, 2, 4), 120);
        Check.due("the terms", Check.polynomial(x, 4), Check.polynomial(x, 2));
        Check.due("c behind 120 words", x.multiply(ShuffleAlgebra.CONCATENATION, 2, 1, 3), 120);
        Check.due("residual of 120 terms", x.residual(1, 3, 2, 3), 120);
        Check.due("the terms", Check.polynomial(x, 3), Check.polynomial(x, 2));
    }

    @Holds(in = "Promise 28", says = {"side: 0 if the words begin with the letter, 1 if they end with it",
        "BAD_VALUE if side is neither 0 nor 1 (checked first)"})
    static void residualAtNoSide() {
        Boundaries.result("residual at the beginning", x -> x.residual(0, 0, 0, 4), "1+b+aaaaaaa", "a+ab+ba+aaaaaaaa+caaaaaaa");
        Boundaries.result("residual at the end", x -> x.residual(1, 0, 0, 4), "1+b+aaaaaaa", "a+ab+ba+aaaaaaaa+aaaaaaac");
        for (int wrong : NO_SIDES) {
            Boundaries.unchanged("residual(" + wrong + ", 4, 0, 4)", x -> x.residual(wrong, 4, 0, 4), BAD_VALUE);
            Boundaries.unchanged("no side and no register", x -> x.residual(wrong, 5, 0, 4), BAD_VALUE);
            Boundaries.unchanged("no side and no target", x -> x.residual(wrong, 4, 0, -1), BAD_VALUE);
            Boundaries.unchanged("no side and no letter", x -> x.residual(wrong, 4, 3, 4), BAD_VALUE);
        }
    }

    @Holds(in = "Promise 28", says = {"register: the register, 0 to 4", "target: the register that gets the result, 0 to 4",
        "it may be the source", "NO_SUCH_REGISTER if a register does not exist (checked second)"})
    static void residualOfNoRegister() {
        String[] polynomials = {"a", "ab+ba", "c-aba", "4", "5aa"};
        dueFromEachToEach("residual at the beginning", (x, register, target) -> x.residual(0, register, 0, target), polynomials,
                new String[] {"1", "b", "-ba", "0", "5a"});
        dueFromEachToEach("residual at the end", (x, register, target) -> x.residual(1, register, 0, target), polynomials,
                new String[] {"1", "b", "-ab", "0", "5a"});
        for (int wrong : Boundaries.NO_REGISTERS) {
            for (int i = 0; i < 2; i++) {
                int side = i;
                Boundaries.unchanged("residual without source", x -> x.residual(side, wrong, 0, 4), NO_SUCH_REGISTER);
                Boundaries.unchanged("residual without target", x -> x.residual(side, 4, 0, wrong), NO_SUCH_REGISTER);
                Boundaries.unchanged("no register and no letter", x -> x.residual(side, wrong, 3, 4), NO_SUCH_REGISTER);
                Boundaries.unchanged("no target and no letter", x -> x.residual(side, 4, -1, wrong), NO_SUCH_REGISTER);
            }
        }
    }

    @Holds(in = "Promise 28", says = {"letter: the letter, 0 to 2", "NO_SUCH_LETTER"})
    static void residualOfNoLetter() {
        String[] wants = {"-1+b", "2-a", "-b+4c"};
        for (int side = 0; side < 2; side++) {
            ShuffleAlgebra x = Check.withPolynomials(side == 0 ? "-a+2b+ab-ba-cb+4cc" : "-a+2b-ab+ba-bc+4cc");
            for (int letter = 0; letter < 3; letter++) {
                Check.due("residual of letter " + letter, x.residual(side, 0, letter, 4), 2);
                Check.due("the result", Check.written(x, 4), wants[letter]);
            }
        }
        for (int wrong : Boundaries.NO_LETTERS) {
            Boundaries.unchanged("residual(0, 4, " + wrong + ", 4)", x -> x.residual(0, 4, wrong, 4), NO_SUCH_LETTER);
            Boundaries.unchanged("residual(1, 0, " + wrong + ", 4)", x -> x.residual(1, 0, wrong, 4), NO_SUCH_LETTER);
            Boundaries.unchanged("no letter of 0", ShuffleAlgebra::new, x -> x.residual(0, 0, wrong, 4), NO_SUCH_LETTER);
        }
    }

    // ---- promise 29

    @Holds(in = "Promise 29", says = {"Replaces every word by the sum, over all positions at which it has a letter, of the word"
            + " without the letter at that position", "Returns the number of terms of the result"})
    static void deriveFromNoneToMost() {
        Boundaries.result("derive of 0", x -> x.derive(0, 0, 4), "0", "0");
        Boundaries.result("derive of the empty word", x -> x.derive(0, 0, 4), "0", "7");
        Boundaries.result("derive by a letter that isn't there", x -> x.derive(0, 2, 4), "0", "7+a+babababa");
        Boundaries.result("derive of one letter", x -> x.derive(0, 2, 4), "-1000000", "-1000000c");
        Boundaries.result("derive of eight letters", x -> x.derive(0, 2, 4), "8ccccccc", "cccccccc");
        Boundaries.result("derive at each position", x -> x.derive(0, 0, 4), "2+abab+abba+baba", "2a+ababa");
        Boundaries.result("derive that cancels", x -> x.derive(0, 0, 4), "0", "aab-2aba+baa");
    }

    @Holds(in = "Promise 29", says = {"register: the register, 0 to 4", "target: the register that gets the result, 0 to 4",
        "it may be the source", "NO_SUCH_REGISTER if a register does not exist (checked first)"})
    static void deriveOfNoRegister() {
        dueFromEachToEach("derive", (x, register, target) -> x.derive(register, 0, target),
                new String[] {"a", "ab+ba", "c-aba", "4", "5aa"}, new String[] {"1", "2b", "-ab-ba", "0", "10a"});
        for (int wrong : Boundaries.NO_REGISTERS) {
            Boundaries.unchanged("derive(" + wrong + ", 0, 4)", x -> x.derive(wrong, 0, 4), NO_SUCH_REGISTER);
            Boundaries.unchanged("derive(4, 0, " + wrong + ")", x -> x.derive(4, 0, wrong), NO_SUCH_REGISTER);
            Boundaries.unchanged("no register and no letter", x -> x.derive(wrong, 3, 4), NO_SUCH_REGISTER);
            Boundaries.unchanged("no target and no letter", x -> x.derive(4, -1, wrong), NO_SUCH_REGISTER);
            Boundaries.unchanged("no target and no range", x -> x.derive(1, 0, wrong), NO_SUCH_REGISTER);
            Boundaries.unchanged("no target and no room", () -> deriving("a"), x -> x.derive(0, 0, wrong), NO_SUCH_REGISTER);
        }
    }

    @Holds(in = "Promise 29", says = {"letter: the letter, 0 to 2", "NO_SUCH_LETTER (checked second)"})
    static void deriveOfNoLetter() {
        String[] wants = {"-1+bc", "2+ac", "4+ab"};
        for (int i = 0; i < 3; i++) {
            int letter = i;
            Boundaries.result("derive by letter " + i, x -> x.derive(0, letter, 4), wants[i], "-a+2b+4c+abc");
        }
        for (int wrong : Boundaries.NO_LETTERS) {
            Boundaries.unchanged("derive(4, " + wrong + ", 4)", x -> x.derive(4, wrong, 4), NO_SUCH_LETTER);
            Boundaries.unchanged("no letter and no range", x -> x.derive(1, wrong, 4), NO_SUCH_LETTER);
            Boundaries.unchanged("no letter and no room", () -> deriving("a"), x -> x.derive(0, wrong, 1), NO_SUCH_LETTER);
            Boundaries.unchanged("no letter of 0", ShuffleAlgebra::new, x -> x.derive(0, wrong, 4), NO_SUCH_LETTER);
        }
    }

    @Holds(in = "Promise 29", says = "OVERFLOW if a coefficient of the result is out of range (checked third)")
    static void deriveToTheRange() {
        Boundaries.result("derive up to the range", x -> x.derive(0, 0, 4), "1000000aaaaaaa", "125000aaaaaaaa");
        Boundaries.result("derive up to the range", x -> x.derive(0, 1, 4), "-1000000b-1000000bbbb", "-500000bb-200000bbbbb");
        for (String out : new String[] {"125001aaaaaaaa", "-125001aaaaaaaa", "a+1000000aa", "500001ab+500000ba", "-1000000-500001aa"}) {
            Boundaries.unchanged("derive of " + out, () -> Check.withPolynomials(out, "7c"), x -> x.derive(0, 0, 1), OVERFLOW);
            Boundaries.unchanged("derive of " + out + " to itself", () -> Check.withPolynomials(out), x -> x.derive(0, 0, 0),
                    OVERFLOW);
        }
        Boundaries.unchanged("no range and no room", () -> deriving("a+500001bab+500000abb"), x -> x.derive(0, 0, 1), OVERFLOW);
    }

    /** In register 0 a polynomial by whose letters a 120 terms are derived, and this one; something in register 1. */
    private static ShuffleAlgebra deriving(String more) {
        ShuffleAlgebra x = Check.withPolynomials("b+c+bb+bc+cb+cc", "bbbb+bbbc+bbcb+bbcc+bcbb+bcbc+bccb+bccc+cbbb+cbbc");
        Check.due("sixty words of two letters", x.multiply(ShuffleAlgebra.CONCATENATION, 0, 1, 0), 60);
        Check.parse(x, "a", 1);
        x.multiply(ShuffleAlgebra.CONCATENATION, 1, 0, 0);
        x.multiply(ShuffleAlgebra.CONCATENATION, 0, 1, 0);
        Check.parse(x, more, 1);
        x.add(0, 1, 0);
        return x;
    }

    @Holds(in = "Promise 29", says = "FULL if the result has more than 120 terms")
    static void deriveToTheRoom() {
        Check.due("derive with 120 terms", deriving("0").derive(0, 0, 1), 120);
        Check.due("derive with 120 terms and words without the letter", deriving("1+b+cccccccc").derive(0, 0, 1), 120);
        Check.due("derive with a term that cancels", deriving("ab-ba").derive(0, 0, 0), 120);
        for (int i = 0; i < 5; i++) {
            int target = i;
            Boundaries.unchanged("derive with 121 terms", () -> deriving("a"), x -> x.derive(0, 0, target), FULL);
            Boundaries.unchanged("derive with 122 terms", () -> deriving("a-bba"), x -> x.derive(0, 0, target), FULL);
        }
    }

    // ---- promise 30

    @Holds(in = "Promise 30", says = {"Returns the sum, over all words, of the product of their coefficients in two polynomials",
        "Returns the sum"})
    static void pairFromNoneToMost() {
        ShuffleAlgebra x = new ShuffleAlgebra();
        Check.due("pair of 0 and 0", x.pair(0, 1), 0);
        Boundaries.fill(x, 2, 0);
        Check.due("pair of 0 and 120 terms", x.pair(0, 2), 0);
        Check.due("pair of 120 terms", x.pair(2, 2), 120);
        x.scale(2, 1000, 2);
        x.scale(2, 1000, 2);
        x.scale(2, -1, 3);
        Check.due("the largest pair", x.pair(2, 2), 120000000000000L);
        Check.due("the largest pair of opposite ones", x.pair(3, 3), 120000000000000L);
        Check.due("the least pair", x.pair(2, 3), -120000000000000L);
        ShuffleAlgebra y = Check.withPolynomials("65536+65536cccccccc", "65536-65536cccccccc", "65536a", "1000000+aaaaaaaa");
        Check.due("pair that wraps around in an int", y.pair(0, 0), 1L << 33);
        Check.due("pair that cancels", y.pair(0, 1), 0);
        Check.due("pair without common words", y.pair(0, 2), 0);
        Check.due("pair with only the empty word in common", y.pair(0, 3), 65536000000L);
        Boundaries.unchanged("pair(1, 1)", z -> z.pair(1, 1), 2000000000000L);
    }

    @Holds(in = "Promise 30", says = {"register: the first register, 0 to 4", "other: the second register, 0 to 4",
        "NO_VALUE if a register does not exist"})
    static void pairOfNoRegister() {
        ShuffleAlgebra x = Check.withPolynomials("a+b", "2b+c", "3c+aa", "4aa+bb", "5bb+a");
        for (int register = 0; register < 5; register++) {
            for (int other = 0; other < 5; other++) {
                int low = Math.min(register, other);
                int high = Math.max(register, other);
                int want = low == high ? (low + 1) * (low + 1) + 1 : high == low + 1 ? high + 1 : high - low == 4 ? 1 : 0;
                Check.due("pair(" + register + ", " + other + ")", x.pair(register, other), want);
            }
        }
        for (int wrong : Boundaries.NO_REGISTERS) {
            Boundaries.unchanged("pair(" + wrong + ", 0)", y -> y.pair(wrong, 0), NO_VALUE);
            Boundaries.unchanged("pair(0, " + wrong + ")", y -> y.pair(0, wrong), NO_VALUE);
            Boundaries.unchanged("pair of no registers", y -> y.pair(wrong, wrong), NO_VALUE);
        }
    }

    // ---- promise 31

    @Holds(in = "Promise 31", says = {"Computes the coordinate polynomial of a polynomial", "Returns the number of terms"})
    static void coordinatesFromNoneToFull() {
        Boundaries.result("coordinates of 0", x -> x.coordinates(0, 4), "0", "0");
        Boundaries.result("coordinates of the empty word", x -> x.coordinates(0, 4), "-1000000", "-1000000");
        Boundaries.result("coordinates of one letter", x -> x.coordinates(0, 4), "1000000c", "1000000c");
        Boundaries.result("coordinates of equal letters", x -> x.coordinates(0, 4), "-1000000cccccccc", "-1000000cccccccc");
        Boundaries.result("coordinates of a Lyndon word", x -> x.coordinates(0, 4), "1000000aaaaaaab", "1000000aaaaaaab");
        Boundaries.result("coordinates of a basis polynomial", x -> x.coordinates(0, 4), "1000000baa",
                "1000000aab+1000000aba+1000000baa");
        ShuffleAlgebra x = Check.withPolynomials("1+b+c+bb+bc+cb+cc+bbb+bbc+bcb+bcc+cbb+cbc+ccb+ccc",
                "bbb+bbc+bcb+bcc+cbb+cbc+ccb+ccc", "aa");
        x.multiply(ShuffleAlgebra.CONCATENATION, 0, 1, 0);
        Check.due("120 Lyndon words", x.multiply(ShuffleAlgebra.CONCATENATION, 2, 0, 0), 120);
        Check.due("coordinates of 120 Lyndon words", x.coordinates(0, 3), 120);
        Check.due("the coordinates", Check.polynomial(x, 3), Check.polynomial(x, 0));
    }

    @Holds(in = "Promise 31", says = {"register: the register, 0 to 4", "target: the register that gets the result, 0 to 4",
        "it may be the source", "NO_SUCH_REGISTER if a register does not exist (checked first)"})
    static void coordinatesOfNoRegister() {
        dueFromEachToEach("coordinates", ShuffleAlgebra::coordinates, new String[] {"ba", "2ab", "3cb", "4", "5bab"},
                new String[] {"-ab+ba", "2ab", "-3bc+3cb", "4", "-10abb+5bab"});
        for (int wrong : Boundaries.NO_REGISTERS) {
            Boundaries.unchanged("coordinates(" + wrong + ", 4)", x -> x.coordinates(wrong, 4), NO_SUCH_REGISTER);
            Boundaries.unchanged("coordinates(0, " + wrong + ")", x -> x.coordinates(0, wrong), NO_SUCH_REGISTER);
            Boundaries.unchanged("no target and no range", () -> Check.withPolynomials("1000000bab"),
                    x -> x.coordinates(0, wrong), NO_SUCH_REGISTER);
            Boundaries.unchanged("no target and no room", () -> Check.withPolynomials(COORDINATES_121),
                    x -> x.coordinates(0, wrong), NO_SUCH_REGISTER);
        }
    }

    @Holds(in = "Promise 31", says = "OVERFLOW if a coefficient of the result is out of range (checked second)")
    static void coordinatesToTheRange() {
        Boundaries.result("coordinates up to the range", x -> x.coordinates(0, 4), "-1000000abb+500000bab", "500000bab");
        Boundaries.result("coordinates down to the range", x -> x.coordinates(0, 4), "1000000abb-500000bab", "-500000bab");
        String[] outs = {"500001bab", "-500001bab", "1000000bab", "-ab+1000000ba", "-abb+500000bab", "abb-500000bab"};
        for (String out : outs) {
            for (int i = 0; i < 2; i++) {
                int target = i;
                Boundaries.unchanged("coordinates of " + out, () -> Check.withPolynomials(out, "7c"),
                        x -> x.coordinates(0, target), OVERFLOW);
            }
        }
        Boundaries.unchanged("no range and no room", () -> Check.withPolynomials("500001bab+" + COORDINATES_121, "7c"),
                x -> x.coordinates(0, 1), OVERFLOW);
    }

    @Holds(in = "Promise 31", says = "FULL if the result has more than 120 terms")
    static void coordinatesToTheRoom() {
        ShuffleAlgebra x = Check.withPolynomials(COORDINATES_120, "7c");
        Check.due("coordinates with 120 terms", x.coordinates(0, 1), 120);
        Check.due("coordinates with 120 terms in their place", x.coordinates(0, 0), 120);
        Check.due("the same ones", Check.polynomial(x, 0), Check.polynomial(x, 1));
        for (int i = 0; i < 5; i++) {
            int target = i;
            Boundaries.unchanged("coordinates with 121 terms", () -> Check.withPolynomials(COORDINATES_121, "7c"),
                    y -> y.coordinates(0, target), FULL);
        }
    }

    @Holds(in = "Promise 31", says = "Coefficients and numbers of terms that occur only on the way do not matter")
    static void coordinatesOnTheWay() {
        Boundaries.result("a coefficient that is out of range on the way", x -> x.coordinates(0, 4),
                "-1000000aaba+1000000abaa", "1000000aaba+1000000abaa");
        ShuffleAlgebra x = Check.withPolynomials("ccbbbaaa");
        Check.due("560 terms on the way", x.coordinates(0, 0), 40);
    }

    // ---- promise 32

    @Holds(in = "Promise 32", says = {"Returns whether a polynomial is a Lie polynomial: the coefficient of the empty word is 0,"
            + " and for every n the terms whose words have n letters do not change in total, except that they are multiplied by"
            + " n, if each word x1 x2 ... xn is replaced by its left bracket", "Returns 1 if it is, otherwise 0"})
    static void isLieFromNoneToMost() {
        dueLie("0", 1);
        dueLie("1", 0);
        dueLie("-1000000+a", 0);
        dueLie("1+ab-ba", 0);
        dueLie("1000000ab-1000000ba", 1);
        dueLie("1000000ab-999999ba", 0);
        dueLie("a+ab-ba", 1);
        dueLie("a+ab-ba+bab", 0);
        dueLie("aa", 0);
        dueLie("ab+ba", 0);
        dueLie("aaaaaaaa", 0);
        ShuffleAlgebra x = Check.withWords("ababcbac", "cabcbaba", "b");
        x.bracket(0, 3);
        Check.due("isLie of a bracket with 120 terms", x.isLie(3), 1);
        x.addTerm(3, 0, 1);
        Check.due("isLie with one coefficient changed", x.isLie(3), 0);
        x.addTerm(3, 0, -1);
        Check.due("isLie with the coefficient changed back", x.isLie(3), 1);
        Boundaries.unchanged("isLie(0)", y -> y.isLie(0), 0);
        Boundaries.unchanged("isLie(4)", y -> y.isLie(4), 1);
        Boundaries.unchanged("isLie(2)", y -> y.isLie(2), 0);
    }

    private static void dueLie(String polynomial, int want) {
        Check.due("isLie of " + polynomial, Check.withPolynomials("7", polynomial).isLie(1), want);
    }

    @Holds(in = "Promise 32", says = {"The left bracket of a word of one letter is that word", "the left bracket of a longer word is"
            + " the commutator of the left bracket of the word without its last letter and its last letter"})
    static void isLieOfLeftBrackets() {
        dueLie("a", 1);
        dueLie("1000000a-1000000b+c", 1);
        dueLie("-aab+2aba-baa", 1);
        dueLie("abc-bac-cab+cba", 1);
        dueLie("abc-bac+cab-cba", 0);
        dueLie("abb-2bab+bba", 1);
        dueLie("abb-bab", 0);
    }

    @Holds(in = "Promise 32", says = {"register: the register, 0 to 4", "NO_SUCH_REGISTER"})
    static void isLieOfNoRegister() {
        for (int register = 0; register < 5; register++) {
            ShuffleAlgebra x = Check.withPolynomials("1", "1", "1", "1", "1");
            Check.parse(x, "a", register);
            for (int other = 0; other < 5; other++) {
                Check.due("isLie(" + other + ")", x.isLie(other), other == register ? 1 : 0);
            }
        }
        for (int wrong : Boundaries.NO_REGISTERS) {
            Boundaries.unchanged("isLie(" + wrong + ")", x -> x.isLie(wrong), NO_SUCH_REGISTER);
        }
    }
}
