/** What "Errors" says of all methods together: refused calls, the order of the errors, and questions. */
public final class BoundaryErrorsTest {
    private static final int NO_SUCH_REGISTER = ShuffleAlgebra.NO_SUCH_REGISTER;
    private static final int NO_SUCH_WORD = ShuffleAlgebra.NO_SUCH_WORD;
    private static final int NO_SUCH_LETTER = ShuffleAlgebra.NO_SUCH_LETTER;
    private static final int BAD_VALUE = ShuffleAlgebra.BAD_VALUE;
    private static final int FULL = ShuffleAlgebra.FULL;
    private static final int TOO_LONG = ShuffleAlgebra.TOO_LONG;
    private static final int OVERFLOW = ShuffleAlgebra.OVERFLOW;
    private static final int NONE = ShuffleAlgebra.NONE;
    private static final int NOT_LYNDON = ShuffleAlgebra.NOT_LYNDON;
    private static final int NO_SUCH_NAME = ShuffleAlgebra.NO_SUCH_NAME;
    private static final int SYNTAX_ERROR = ShuffleAlgebra.SYNTAX_ERROR;
    private static final long NO_VALUE = ShuffleAlgebra.NO_VALUE;
    private static final String UNCHANGED = "A method that returns one of the negative error codes, or NO_VALUE, leaves the state"
            + " unchanged, except that parsePolynomial and transform always clear the input";
    private static final String LISTED_FIRST = "If several errors apply, the one that is listed first in the documentation of the"
            + " method is returned";
    private static final String ONLY_ANSWER = "Methods whose documentation does not mention a change only answer a question";

    public static void main(String[] args) throws ReflectiveOperationException {
        Boundaries.run(BoundaryErrorsTest.class);
    }

    /** An object with another word in buffer 2 and another polynomial in register 0. */
    private static ShuffleAlgebra rich(String word, String polynomial) {
        ShuffleAlgebra x = Boundaries.rich("");
        Check.setWord(x, 2, word);
        Check.parse(x, polynomial, 0);
        Check.type(x, Boundaries.INPUT);
        return x;
    }

    @Holds(in = "Errors", says = UNCHANGED)
    static void refusedCallsWithWords() {
        Boundaries.unchanged("appendLetter", x -> x.appendLetter(3, 0), NO_SUCH_WORD);
        Boundaries.unchanged("appendLetter", x -> x.appendLetter(0, 3), NO_SUCH_LETTER);
        Boundaries.unchanged("appendLetter", x -> x.appendLetter(2, 0), FULL);
        Boundaries.unchanged("clearWord", x -> x.clearWord(3), NO_SUCH_WORD);
        Boundaries.unchanged("wordLength", x -> x.wordLength(-1), NO_SUCH_WORD);
        Boundaries.unchanged("wordLetter", x -> x.wordLetter(3, 0), NO_SUCH_WORD);
        Boundaries.unchanged("wordLetter", x -> x.wordLetter(2, 8), NONE);
        Boundaries.unchanged("reverseWord", x -> x.reverseWord(3, 0), NO_SUCH_WORD);
        Boundaries.unchanged("reverseWord", x -> x.reverseWord(0, 3), NO_SUCH_WORD);
        Boundaries.unchanged("subwordCount", x -> x.subwordCount(0, 3), NO_SUCH_WORD);
        Boundaries.unchanged("splitCount", x -> x.splitCount(0, 1, 3), NO_SUCH_WORD);
        Boundaries.unchanged("coverCount", x -> x.coverCount(0, 1, 3), NO_SUCH_WORD);
        Boundaries.unchanged("isLyndon", x -> x.isLyndon(3), NO_SUCH_WORD);
        Boundaries.unchanged("factorCount", x -> x.factorCount(3), NO_SUCH_WORD);
        Boundaries.unchanged("factorStart", x -> x.factorStart(3, 0), NO_SUCH_WORD);
        Boundaries.unchanged("factorStart", x -> x.factorStart(2, 8), NONE);
        Boundaries.unchanged("nextLyndon", x -> x.nextLyndon(3, 8), NO_SUCH_WORD);
        Boundaries.unchanged("nextLyndon", x -> x.nextLyndon(0, 9), BAD_VALUE);
        Boundaries.unchanged("nextLyndon", x -> x.nextLyndon(2, 8), NONE);
        Boundaries.unchanged("lyndonCount", x -> x.lyndonCount(0), BAD_VALUE);
        Boundaries.unchanged("bracket", x -> x.bracket(3, 0), NO_SUCH_WORD);
        Boundaries.unchanged("bracket", x -> x.bracket(0, 5), NO_SUCH_REGISTER);
        Boundaries.unchanged("bracket", x -> x.bracket(1, 0), NOT_LYNDON);
        Boundaries.unchanged("bracket", () -> rich("aacbabcb", "a"), x -> x.bracket(2, 0), FULL);
        Boundaries.unchanged("basis", x -> x.basis(3, 0), NO_SUCH_WORD);
        Boundaries.unchanged("basis", x -> x.basis(0, 5), NO_SUCH_REGISTER);
        Boundaries.unchanged("basis", () -> rich("acabcaba", "a"), x -> x.basis(2, 0), FULL);
    }

    @Holds(in = "Errors", says = UNCHANGED)
    static void refusedCallsWithTerms() {
        Boundaries.unchanged("clearPolynomial", x -> x.clearPolynomial(5), NO_SUCH_REGISTER);
        Boundaries.unchanged("addTerm", x -> x.addTerm(5, 0, 1), NO_SUCH_REGISTER);
        Boundaries.unchanged("addTerm", x -> x.addTerm(0, 3, 1), NO_SUCH_WORD);
        Boundaries.unchanged("addTerm", x -> x.addTerm(0, 0, 1000001), BAD_VALUE);
        Boundaries.unchanged("addTerm", x -> x.addTerm(1, 0, 1), OVERFLOW);
        Boundaries.unchanged("addTerm", x -> x.addTerm(2, 0, 1), FULL);
        Boundaries.unchanged("coefficient", x -> x.coefficient(5, 0), NO_VALUE);
        Boundaries.unchanged("coefficient", x -> x.coefficient(0, 3), NO_VALUE);
        Boundaries.unchanged("termCount", x -> x.termCount(5), NO_SUCH_REGISTER);
        Boundaries.unchanged("termLength", x -> x.termLength(5, 0), NO_SUCH_REGISTER);
        Boundaries.unchanged("termLength", x -> x.termLength(2, 120), NONE);
        Boundaries.unchanged("termLetter", x -> x.termLetter(5, 0, 0), NO_SUCH_REGISTER);
        Boundaries.unchanged("termLetter", x -> x.termLetter(2, 120, 0), NONE);
        Boundaries.unchanged("termLetter", x -> x.termLetter(2, 0, 8), NONE);
        Boundaries.unchanged("termCoefficient", x -> x.termCoefficient(5, 0), NO_VALUE);
        Boundaries.unchanged("termCoefficient", x -> x.termCoefficient(2, 120), NO_VALUE);
    }

    @Holds(in = "Errors", says = UNCHANGED)
    static void refusedCallsWithResults() {
        Boundaries.unchanged("add", x -> x.add(5, 0, 0), NO_SUCH_REGISTER);
        Boundaries.unchanged("add", x -> x.add(1, 1, 1), OVERFLOW);
        Boundaries.unchanged("add", x -> x.add(2, 0, 2), FULL);
        Boundaries.unchanged("scale", x -> x.scale(5, 1, 0), NO_SUCH_REGISTER);
        Boundaries.unchanged("scale", x -> x.scale(0, 1001, 0), BAD_VALUE);
        Boundaries.unchanged("scale", x -> x.scale(1, 2, 1), OVERFLOW);
        for (int i = 0; i < 3; i++) {
            int kind = i;
            Boundaries.unchanged("multiply", x -> x.multiply(kind, 5, 0, 0), NO_SUCH_REGISTER);
            Boundaries.unchanged("multiply", x -> x.multiply(kind, 3, 3, 3), TOO_LONG);
            Boundaries.unchanged("multiply", x -> x.multiply(kind, 1, 1, 1), OVERFLOW);
            Boundaries.unchanged("multiply", x -> x.multiply(kind, 2, 0, 2), FULL);
        }
        Boundaries.unchanged("multiply", x -> x.multiply(3, 0, 0, 0), BAD_VALUE);
        Boundaries.unchanged("antipode", x -> x.antipode(5, 0), NO_SUCH_REGISTER);
        Boundaries.unchanged("residual", x -> x.residual(2, 0, 0, 0), BAD_VALUE);
        Boundaries.unchanged("residual", x -> x.residual(0, 5, 0, 0), NO_SUCH_REGISTER);
        Boundaries.unchanged("residual", x -> x.residual(1, 0, 3, 0), NO_SUCH_LETTER);
        Boundaries.unchanged("derive", x -> x.derive(5, 0, 0), NO_SUCH_REGISTER);
        Boundaries.unchanged("derive", x -> x.derive(0, 3, 0), NO_SUCH_LETTER);
        Boundaries.unchanged("derive", x -> x.derive(1, 0, 1), OVERFLOW);
        Boundaries.unchanged("pair", x -> x.pair(5, 0), NO_VALUE);
        Boundaries.unchanged("coordinates", x -> x.coordinates(5, 0), NO_SUCH_REGISTER);
        Boundaries.unchanged("coordinates", () -> rich("c", "500001bab"), x -> x.coordinates(0, 0), OVERFLOW);
        Boundaries.unchanged("coordinates", () -> rich("c", "b+c+cbaccaba"), x -> x.coordinates(0, 0), FULL);
        Boundaries.unchanged("isLie", x -> x.isLie(5), NO_SUCH_REGISTER);
    }

    @Holds(in = "Errors", says = UNCHANGED)
    static void refusedCallsWithTexts() {
        Boundaries.unchanged("appendCharacter", x -> x.appendCharacter(127), BAD_VALUE);
        String sixty = "a" + "+a".repeat(29) + "a";
        Boundaries.unchanged("appendCharacter", () -> Boundaries.rich(sixty), x -> x.appendCharacter('b'), FULL);
        Boundaries.takesInput("parsePolynomial", "a", x -> x.parsePolynomial(5), NO_SUCH_REGISTER);
        Boundaries.takesInput("parsePolynomial", "a+", x -> x.parsePolynomial(0), SYNTAX_ERROR - 2);
        Boundaries.takesInput("parsePolynomial", "1000001", x -> x.parsePolynomial(0), OVERFLOW);
        Boundaries.unchanged("write", x -> x.write(5), NO_SUCH_REGISTER);
        Boundaries.unchanged("outputCharacter", x -> x.outputCharacter(60), NONE);
        Boundaries.takesInput("transform", "odd", x -> x.transform(5, 0), NO_SUCH_REGISTER);
        Boundaries.takesInput("transform", "odds", x -> x.transform(0, 0), NO_SUCH_NAME);
        Boundaries.unchanged("restoreSnapshot", Check::busy, x -> x.restoreSnapshot(), NONE);
    }

    @Holds(in = "Errors", says = LISTED_FIRST)
    static void firstErrorOfWords() {
        Boundaries.unchanged("no word, no letter", x -> x.appendLetter(3, 3), NO_SUCH_WORD);
        Boundaries.unchanged("no letter, no room", x -> x.appendLetter(2, 3), NO_SUCH_LETTER);
        Boundaries.unchanged("no word, no position", x -> x.wordLetter(3, 9), NO_SUCH_WORD);
        Boundaries.unchanged("no word, no factor", x -> x.factorStart(3, 9), NO_SUCH_WORD);
        Boundaries.unchanged("no word, no length", x -> x.nextLyndon(3, 9), NO_SUCH_WORD);
        Boundaries.unchanged("no length, no next word", x -> x.nextLyndon(2, 9), BAD_VALUE);
        Boundaries.unchanged("no word, no register", x -> x.bracket(3, 5), NO_SUCH_WORD);
        Boundaries.unchanged("no register, no Lyndon word", x -> x.bracket(1, 5), NO_SUCH_REGISTER);
        Boundaries.unchanged("no register, no room", () -> rich("aacbabcb", "a"), x -> x.bracket(2, 5), NO_SUCH_REGISTER);
        Boundaries.unchanged("no word, no register", x -> x.basis(3, 5), NO_SUCH_WORD);
        Boundaries.unchanged("no register, no room", () -> rich("acabcaba", "a"), x -> x.basis(2, 5), NO_SUCH_REGISTER);
    }

    @Holds(in = "Errors", says = LISTED_FIRST)
    static void firstErrorOfPolynomials() {
        Boundaries.unchanged("no register, no word", x -> x.addTerm(5, 3, 1), NO_SUCH_REGISTER);
        Boundaries.unchanged("no register, no value", x -> x.addTerm(5, 0, 1000001), NO_SUCH_REGISTER);
        Boundaries.unchanged("no word, no value", x -> x.addTerm(0, 3, 1000001), NO_SUCH_WORD);
        Boundaries.unchanged("no value, no range", x -> x.addTerm(1, 0, 1000001), BAD_VALUE);
        Boundaries.unchanged("no value, no room", x -> x.addTerm(2, 0, 1000001), BAD_VALUE);
        Boundaries.unchanged("no register, no term", x -> x.termLength(5, 120), NO_SUCH_REGISTER);
        Boundaries.unchanged("no register, no term, no position", x -> x.termLetter(5, 120, 8), NO_SUCH_REGISTER);
        Boundaries.unchanged("no register, no range", x -> x.add(1, 1, 5), NO_SUCH_REGISTER);
        Boundaries.unchanged("no register, no room", x -> x.add(2, 0, 5), NO_SUCH_REGISTER);
        Boundaries.unchanged("no range, no room", () -> rich("c", "1000000aaaa+b+c"), x -> x.add(2, 0, 1), OVERFLOW);
        Boundaries.unchanged("no register, no value", x -> x.scale(5, 1001, 0), NO_SUCH_REGISTER);
        Boundaries.unchanged("no value, no range", x -> x.scale(1, 1001, 0), BAD_VALUE);
        Boundaries.unchanged("no register, no range", x -> x.scale(1, 2, 5), NO_SUCH_REGISTER);
        for (int i = 0; i < 3; i++) {
            int kind = i;
            Boundaries.unchanged("no kind, no register", x -> x.multiply(3 + kind, 5, 0, 0), BAD_VALUE);
            Boundaries.unchanged("no register, too long", x -> x.multiply(kind, 3, 3, 5), NO_SUCH_REGISTER);
            Boundaries.unchanged("too long, no range", () -> rich("c", "65536b+cc"), x -> x.multiply(kind, 3, 0, 0), TOO_LONG);
            Boundaries.unchanged("too long, no room", x -> x.multiply(kind, 2, 2, 0), TOO_LONG);
            Boundaries.unchanged("no room", () -> rich("c", "1+a"), x -> x.multiply(kind, 2, 0, 0), FULL);
            Boundaries.unchanged("no range, no room", () -> rich("c", "1000000+1000000a"), x -> x.multiply(kind, 2, 0, 0), OVERFLOW);
        }
        Boundaries.unchanged("no side, no register", x -> x.residual(2, 5, 0, 0), BAD_VALUE);
        Boundaries.unchanged("no side, no letter", x -> x.residual(2, 0, 3, 0), BAD_VALUE);
        Boundaries.unchanged("no register, no letter", x -> x.residual(0, 0, 3, 5), NO_SUCH_REGISTER);
        Boundaries.unchanged("no register, no letter", x -> x.derive(0, 3, 5), NO_SUCH_REGISTER);
        Boundaries.unchanged("no letter, no range", x -> x.derive(1, 3, 0), NO_SUCH_LETTER);
        Boundaries.unchanged("no register, no range", x -> x.derive(1, 0, 5), NO_SUCH_REGISTER);
        Boundaries.unchanged("no register, no range", () -> rich("c", "500001bab"), x -> x.coordinates(0, 5), NO_SUCH_REGISTER);
        Boundaries.unchanged("no register, no room", () -> rich("c", "b+c+cbaccaba"), x -> x.coordinates(0, 5), NO_SUCH_REGISTER);
        Boundaries.unchanged("no range, no room", () -> rich("c", "b+c+cbaccaba+500001bab"), x -> x.coordinates(0, 0), OVERFLOW);
    }

    @Holds(in = "Errors", says = LISTED_FIRST)
    static void firstErrorOfTexts() {
        String sixty = "a" + "+a".repeat(29) + "a";
        Boundaries.unchanged("no character, no room", () -> Boundaries.rich(sixty), x -> x.appendCharacter(31), BAD_VALUE);
        Boundaries.takesInput("no register, no polynomial", "a+", x -> x.parsePolynomial(5), NO_SUCH_REGISTER);
        Boundaries.takesInput("no register, no range", "1000001", x -> x.parsePolynomial(5), NO_SUCH_REGISTER);
        Boundaries.takesInput("no polynomial, no range", "1000001+", x -> x.parsePolynomial(0), SYNTAX_ERROR - 8);
        Boundaries.takesInput("no register, no name", "odds", x -> x.transform(5, 0), NO_SUCH_REGISTER);
        Boundaries.takesInput("no target, no name", "odds", x -> x.transform(0, 5), NO_SUCH_REGISTER);
    }

    @Holds(in = "Errors", says = ONLY_ANSWER)
    static void questions() {
        Boundaries.unchanged("wordLength", x -> x.wordLength(0), 3);
        Boundaries.unchanged("wordLetter", x -> x.wordLetter(0, 2), 1);
        Boundaries.unchanged("subwordCount", x -> x.subwordCount(0, 0), 1);
        Boundaries.unchanged("splitCount", x -> x.splitCount(0, 1, 2), 0);
        Boundaries.unchanged("coverCount", x -> x.coverCount(0, 0, 0), 1);
        Boundaries.unchanged("isLyndon", x -> x.isLyndon(0), 1);
        Boundaries.unchanged("factorCount", x -> x.factorCount(1), 2);
        Boundaries.unchanged("factorStart", x -> x.factorStart(1, 1), 1);
        Boundaries.unchanged("lyndonCount", x -> x.lyndonCount(3), 8);
        Boundaries.unchanged("coefficient", x -> x.coefficient(1, 0), 1000000);
        Boundaries.unchanged("termCount", x -> x.termCount(2), 120);
        Boundaries.unchanged("termLength", x -> x.termLength(3, 2), 8);
        Boundaries.unchanged("termLetter", x -> x.termLetter(3, 1, 0), 1);
        Boundaries.unchanged("termCoefficient", x -> x.termCoefficient(3, 0), 65536);
        Boundaries.unchanged("pair", x -> x.pair(1, 1), 2000000000000L);
        Boundaries.unchanged("isLie", x -> x.isLie(4), 1);
        Boundaries.unchanged("isLie", x -> x.isLie(3), 0);
        Boundaries.unchanged("outputCharacter", x -> x.outputCharacter(0), '3');
    }
}
