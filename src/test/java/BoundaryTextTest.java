/** Promises 33 to 37: the boundary cases that the document names for input and output, sentence by sentence. */
public final class BoundaryTextTest {
    private static final int NO_SUCH_REGISTER = ShuffleAlgebra.NO_SUCH_REGISTER;
    private static final int BAD_VALUE = ShuffleAlgebra.BAD_VALUE;
    private static final int FULL = ShuffleAlgebra.FULL;
    private static final int OVERFLOW = ShuffleAlgebra.OVERFLOW;
    private static final int NONE = ShuffleAlgebra.NONE;
    private static final int NO_SUCH_NAME = ShuffleAlgebra.NO_SUCH_NAME;
    private static final int SYNTAX_ERROR = ShuffleAlgebra.SYNTAX_ERROR;
    private static final int[] NO_CHARACTERS = {31, 127, 0, -1, 10, 128, 255, 256 + 'a', 65536 + 'a', Integer.MIN_VALUE,
        Integer.MAX_VALUE};
    private static final String SIXTY = "a+b-c+aa+ab+ac+ba+bb+bc+ca+cb+cc+1-a+b+1000000abcabcab-7abca";
    private static final String[] NAMES = {"reverse", "negate", "even", "odd", "lyndon"};

    public static void main(String[] args) throws ReflectiveOperationException {
        Boundaries.run(BoundaryTextTest.class);
    }

    // ---- promise 33

    @Holds(in = "Promise 33", says = {"Appends a character to the input", "Returns the new length of the input"})
    static void appendCharacterFromEmptyToFull() {
        ShuffleAlgebra x = new ShuffleAlgebra();
        Check.due("the characters of the text", SIXTY.length(), 60);
        for (int i = 0; i < 60; i++) {
            Check.due("appendCharacter", x.appendCharacter(SIXTY.charAt(i)), i + 1);
        }
        Check.due("the terms of the input", x.parsePolynomial(0), 14);
        Check.due("the first character of the next input", x.appendCharacter('a'), 1);
    }

    @Holds(in = "Promise 33", says = {"character: the character code, 32 to 126",
        "BAD_VALUE if character is out of range (checked first)"})
    static void appendCharacterOutOfRange() {
        for (int character = 32; character <= 126; character++) {
            ShuffleAlgebra x = new ShuffleAlgebra();
            Check.due("appendCharacter(" + character + ")", x.appendCharacter(character), 1);
        }
        for (int wrong : NO_CHARACTERS) {
            Boundaries.unchanged("appendCharacter(" + wrong + ")", x -> x.appendCharacter(wrong), BAD_VALUE);
            Boundaries.unchanged("no character and no room", () -> Boundaries.rich(SIXTY), x -> x.appendCharacter(wrong), BAD_VALUE);
            Boundaries.unchanged("no character for an empty input", () -> Boundaries.rich(""), x -> x.appendCharacter(wrong),
                    BAD_VALUE);
        }
    }

    @Holds(in = "Promise 33", says = "FULL if the input has 60 characters")
    static void appendCharacterToFullInput() {
        ShuffleAlgebra x = Boundaries.rich(SIXTY.substring(0, 59));
        Check.due("the sixtieth character", x.appendCharacter('a'), 60);
        for (int character = 32; character <= 126; character++) {
            Check.due("a character behind sixty", x.appendCharacter(character), FULL);
        }
        for (int character : new int[] {32, 'a', '+', 126}) {
            Boundaries.unchanged("appendCharacter(" + character + ")", () -> Boundaries.rich(SIXTY),
                    y -> y.appendCharacter(character), FULL);
        }
    }

    // ---- promise 34

    private static void dueParse(String text, String want) {
        ShuffleAlgebra x = Check.withPolynomials("1", "a", "b", "c", "7bb");
        int terms = want.equals("0") ? 0 : want.split("(?<=.)[+-]").length;
        Check.due("parse of " + text, Check.parse(x, text, 4), terms);
        Check.due("the polynomial of " + text, Check.written(x, 4), want);
        for (int register = 0; register < 4; register++) {
            Check.due("another register", Check.written(x, register), new String[] {"1", "a", "b", "c"}[register]);
        }
        Check.dueInputLength("parse of " + text, x, 0);
    }

    private static void dueError(String text, int position) {
        for (int register = 0; register < 5; register += 4) {
            int target = register;
            Boundaries.takesInput("parse of " + text, text, x -> x.parsePolynomial(target), SYNTAX_ERROR - position);
        }
    }

    @Holds(in = "Promise 34", says = {"Parses the input as a polynomial and clears the input", "Returns the number of terms"})
    static void parseFromNoneToMost() {
        dueParse("0", "0");
        dueParse("a-a", "0");
        dueParse("1", "1");
        dueParse("cccccccc", "cccccccc");
        dueParse("1000000cccccccc-1000000", "-1000000+1000000cccccccc");
        dueParse(SIXTY, "1+2b-c+aa+ab+ac+ba+bb+bc+ca+cb+cc-7abca+1000000abcabcab");
        dueParse("a-a" + "+a-a".repeat(14), "0");
        String most = "1+a-b+c+aa+ab+ac+ba+bb+bc+ca+cb+cc+aaa+aab+aac+aba+abb+abc";
        Check.due("the characters of the text", most.length(), 58);
        dueParse(most, most);
    }

    @Holds(in = "Promise 34", says = {"target: the register that gets the polynomial, 0 to 4",
        "NO_SUCH_REGISTER (checked first; the input is cleared even then)"})
    static void parseToNoRegister() {
        for (int target = 0; target < 5; target++) {
            ShuffleAlgebra x = Check.withPolynomials("1", "1", "1", "1", "1");
            Check.due("parse to " + target, Check.parse(x, "2+b", target), 2);
            for (int i = 0; i < 5; i++) {
                Check.due("register " + i, Check.written(x, i), i == target ? "2+b" : "1");
            }
        }
        for (int wrong : Boundaries.NO_REGISTERS) {
            for (String text : new String[] {"a", "", "+", "a++", "9999999", SIXTY}) {
                Boundaries.takesInput("parse to " + wrong, text, x -> x.parsePolynomial(wrong), NO_SUCH_REGISTER);
            }
            ShuffleAlgebra x = Boundaries.rich("a+b");
            Check.due("parse to " + wrong, x.parsePolynomial(wrong), NO_SUCH_REGISTER);
            Check.dueInputLength("parse to " + wrong, x, 0);
        }
    }

    @Holds(in = "Promise 34", says = "SYNTAX_ERROR - k if the input is not valid and k is its error position (checked second)")
    static void parseOfNoPolynomial() {
        dueError("", 0);
        dueError("x", 0);
        dueError("-", 1);
        dueError("a-", 2);
        dueError("9999999+", 8);
        dueError("9999999+9999999d", 15);
        dueError(SIXTY.substring(0, 59) + "-", 60);
        dueError(SIXTY.substring(0, 59) + "d", 59);
        dueError(" " + SIXTY.substring(0, 59), 0);
        dueError(" ".repeat(60), 0);
        for (int character = 32; character <= 126; character++) {
            boolean term = "abc0123456789".indexOf(character) >= 0;
            if (!term) {
                dueError(String.valueOf((char) character), character == '-' ? 1 : 0);
                boolean sign = character == '+' || character == '-';
                dueError("a" + (char) character, sign ? 2 : 1);
                dueError("2" + (char) character, sign ? 2 : 1);
                dueError("b-" + (char) character, 2);
            }
        }
    }

    @Holds(in = "Promise 34", says = "OVERFLOW if a coefficient of the polynomial, after terms with the same word were added up, is"
            + " out of range")
    static void parseToTheRange() {
        dueParse("1000000", "1000000");
        dueParse("-1000000c", "-1000000c");
        dueParse("1000001a-a", "1000000a");
        dueParse("-a-1000000a+a", "-1000000a");
        dueParse("9999999-9999999+a", "a");
        dueParse("9999999b-8999999b", "1000000b");
        for (String text : new String[] {"1000001", "-1000001", "9999999cccccccc", "1000000a+a", "-a-1000000a", "1+1000001a-1",
            "9999999-8999998", "9999999+9999999+9999999+9999999+9999999+9999999+9999999"}) {
            for (int register = 0; register < 5; register++) {
                int target = register;
                Boundaries.takesInput("parse of " + text, text, x -> x.parsePolynomial(target), OVERFLOW);
            }
        }
    }

    // ---- promise 35

    @Holds(in = "Promise 35", says = {"Writes a polynomial to the output", "Returns the length of the output"})
    static void writeFromNoneToMost() {
        for (String text : new String[] {"0", "1", "-1", "a", "-a", "1-a+b-10cccccccc", "-1000000-1000000cccccccc"}) {
            ShuffleAlgebra x = Check.withPolynomials("0", text);
            Check.due("write of " + text, x.write(1), text.length());
            Check.due("the output", Check.output(x), text);
            Check.due("the register", Check.written(x, 1), text);
        }
        ShuffleAlgebra x = Check.withPolynomials("0", "aaa");
        Boundaries.fill(x, 2, 0);
        x.multiply(ShuffleAlgebra.CONCATENATION, 1, 2, 2);
        x.scale(2, 1000, 2);
        x.scale(2, -1000, 2);
        int letters = 30 * 7 + 90 * 8;
        Check.due("write of 120 terms", x.write(2), 120 * "-1000000".length() + letters);
        Check.due("the last character", x.outputCharacter(120 * 8 + letters - 1), 'a');
        Check.due("the character behind the last", x.outputCharacter(120 * 8 + letters), NONE);
        Check.due("a short text in place of a long one", x.write(0), 1);
        Check.due("the short text", Check.output(x), "0");
    }

    @Holds(in = "Promise 35", says = {"register: the register, 0 to 4", "NO_SUCH_REGISTER"})
    static void writeOfNoRegister() {
        String[] polynomials = {"1", "a", "2b", "-c", "0"};
        ShuffleAlgebra x = Check.withPolynomials(polynomials);
        for (int register = 0; register < 5; register++) {
            Check.due("write(" + register + ")", x.write(register), polynomials[register].length());
            Check.due("the output", Check.output(x), polynomials[register]);
        }
        for (int wrong : Boundaries.NO_REGISTERS) {
            Boundaries.unchanged("write(" + wrong + ")", y -> y.write(wrong), NO_SUCH_REGISTER);
        }
    }

    // ---- promise 36

    @Holds(in = "Promise 36", says = {"Returns a character of the output", "index: the index, from 0", "Returns the character code",
        "NONE if index is not an index of the output"})
    static void outputCharacterAtNoIndex() {
        ShuffleAlgebra x = Check.withPolynomials("10-2ab", "0");
        for (int index : new int[] {-1, 0, 1, Integer.MIN_VALUE, Integer.MAX_VALUE}) {
            Check.due("outputCharacter before a write", x.outputCharacter(index), NONE);
        }
        x.write(0);
        int[] characters = {'1', '0', '-', '2', 'a', 'b'};
        for (int index = 0; index < characters.length; index++) {
            Check.due("outputCharacter(" + index + ")", x.outputCharacter(index), characters[index]);
        }
        for (int index : new int[] {-1, 6, 7, 60, 256, 65536, Integer.MIN_VALUE, Integer.MAX_VALUE}) {
            Check.due("outputCharacter(" + index + ")", x.outputCharacter(index), NONE);
        }
        x.write(1);
        Check.due("the only character", x.outputCharacter(0), '0');
        Check.due("the character behind the only one", x.outputCharacter(1), NONE);
        int length = Boundaries.REGISTER_0.length();
        Boundaries.unchanged("outputCharacter(0)", y -> y.outputCharacter(0), '3');
        Boundaries.unchanged("outputCharacter at the end", y -> y.outputCharacter(length - 1), 'a');
        Boundaries.unchanged("outputCharacter behind the end", y -> y.outputCharacter(length), NONE);
        Boundaries.unchanged("outputCharacter(-1)", y -> y.outputCharacter(-1), NONE);
    }

    // ---- promise 37

    private static void dueTransform(String name, String text, String want) {
        for (int target = 0; target < 2; target++) {
            ShuffleAlgebra x = Check.withPolynomials(text, "7c");
            Check.type(x, name);
            Check.due(name + " of " + text, x.transform(0, target), want.equals("0") ? 0 : want.split("(?<=.)[+-]").length);
            Check.due("the result of " + name + " of " + text, Check.written(x, target), want);
            Check.due("the other register", Check.written(x, 1 - target), target == 0 ? "7c" : text);
            Check.dueInputLength(name, x, 0);
        }
    }

    @Holds(in = "Promise 37", says = {"Changes a polynomial as the name in the input tells, and clears the input",
        "The names are reverse (every word is read backwards), negate (every coefficient is replaced by the opposite number), even"
            + " (only the terms whose words have an even number of letters are kept), odd (only the others are kept), and lyndon"
            + " (only the terms whose words are Lyndon words are kept)", "Returns the number of terms of the result"})
    static void transformFromNoneToFull() {
        String all = "1+a-ab+aac+aaab+aaaac-aaaaab+aaaaaac+aaaaaaab";
        dueTransform("reverse", all, "1+a-ba+caa+baaa+caaaa-baaaaa+caaaaaa+baaaaaaa");
        dueTransform("negate", all, "-1-a+ab-aac-aaab-aaaac+aaaaab-aaaaaac-aaaaaaab");
        dueTransform("even", all, "1-ab+aaab-aaaaab+aaaaaaab");
        dueTransform("odd", all, "a+aac+aaaac+aaaaaac");
        dueTransform("lyndon", all, "a-ab+aac+aaab+aaaac-aaaaab+aaaaaac+aaaaaaab");
        dueTransform("lyndon", "1+aa+ba+abab+baaaaaaa", "0");
        dueTransform("even", "a+cccccca", "0");
        dueTransform("odd", "1+aa+ccccccca", "0");
        dueTransform("negate", "-1000000+1000000cccccccc", "1000000-1000000cccccccc");
        int[] wants = {120, 120, 30, 90, 18};
        for (int i = 0; i < NAMES.length; i++) {
            dueTransform(NAMES[i], "0", "0");
            ShuffleAlgebra x = new ShuffleAlgebra();
            Boundaries.fill(x, 2, 0);
            Check.type(x, NAMES[i]);
            Check.due(NAMES[i] + " of 120 terms", x.transform(2, 2), wants[i]);
        }
    }

    @Holds(in = "Promise 37", says = {"register: the register, 0 to 4", "target: the register that gets the result, 0 to 4",
        "it may be the source", "NO_SUCH_REGISTER if a register does not exist (checked first; the input is cleared even then)"})
    static void transformOfNoRegister() {
        String[] polynomials = {"1", "a", "2b", "-c", "aa"};
        String[] negated = {"-1", "-a", "-2b", "c", "-aa"};
        for (int register = 0; register < 5; register++) {
            for (int target = 0; target < 5; target++) {
                ShuffleAlgebra x = Check.withPolynomials(polynomials);
                Check.type(x, "negate");
                Check.due("negate from " + register + " to " + target, x.transform(register, target), 1);
                for (int i = 0; i < 5; i++) {
                    Check.due("register " + i, Check.written(x, i), i == target ? negated[register] : polynomials[i]);
                }
            }
        }
        for (int wrong : Boundaries.NO_REGISTERS) {
            for (String name : new String[] {"negate", "odd", "", "nega", SIXTY}) {
                Boundaries.takesInput("transform of no register", name, x -> x.transform(wrong, 0), NO_SUCH_REGISTER);
                Boundaries.takesInput("transform to no register", name, x -> x.transform(0, wrong), NO_SUCH_REGISTER);
                Boundaries.takesInput("transform of no registers", name, x -> x.transform(wrong, wrong), NO_SUCH_REGISTER);
            }
        }
    }

    @Holds(in = "Promise 37", says = "NO_SUCH_NAME if the input is none of these names")
    static void transformByNoName() {
        for (String name : NAMES) {
            String[] wrongs = {name.substring(1), name.substring(0, name.length() - 1), name + name, name + " ", " " + name,
                name.toUpperCase(), name.substring(0, 1).toUpperCase() + name.substring(1), name + "s",
                name.substring(0, name.length() - 1) + "z"};
            for (String wrong : wrongs) {
                Boundaries.takesInput("transform by " + wrong, wrong, x -> x.transform(0, 0), NO_SUCH_NAME);
                Boundaries.takesInput("transform by " + wrong, wrong, x -> x.transform(2, 4), NO_SUCH_NAME);
            }
        }
        for (String wrong : new String[] {"", " ", "a", "evenodd", "add", "antipode", SIXTY, "odd".repeat(20), "~"}) {
            Boundaries.takesInput("transform by " + wrong, wrong, x -> x.transform(0, 1), NO_SUCH_NAME);
            Boundaries.takesInput("transform of 0 by " + wrong, wrong, x -> x.transform(4, 4), NO_SUCH_NAME);
        }
    }
}
