/** Promises 33 to 37: the input, the output and the transformations. */
public final class TextTest {
    private static final int NO_SUCH_REGISTER = ShuffleAlgebra.NO_SUCH_REGISTER;
    private static final int BAD_VALUE = ShuffleAlgebra.BAD_VALUE;
    private static final int FULL = ShuffleAlgebra.FULL;
    private static final int OVERFLOW = ShuffleAlgebra.OVERFLOW;
    private static final int NONE = ShuffleAlgebra.NONE;
    private static final int NO_SUCH_NAME = ShuffleAlgebra.NO_SUCH_NAME;
    private static final int SYNTAX_ERROR = ShuffleAlgebra.SYNTAX_ERROR;
    private static final int[] NO_REGISTERS = {-1, 5, Integer.MIN_VALUE, Integer.MAX_VALUE};

    public static void main(String[] args) {
        promise33AppendCharacter();
        promise34ParsePolynomial();
        promise34ErrorPositions();
        promise34LongTexts();
        promise35Write();
        promise36OutputCharacter();
        promise37Transform();
        promise37Errors();
        Check.finish();
    }

    private static void promise33AppendCharacter() {
        ShuffleAlgebra x = new ShuffleAlgebra();
        int[] wrongs = {31, 127, 0, -1, 256 + 'a', Integer.MIN_VALUE, Integer.MAX_VALUE};
        for (int wrong : wrongs) {
            Check.due("appendCharacter of " + wrong, x.appendCharacter(wrong), BAD_VALUE);
        }
        int[] allowed = {32, 126, 'a', '+'};
        for (int i = 0; i < 60; i++) {
            Check.due("appendCharacter", x.appendCharacter(allowed[i % allowed.length]), i + 1);
        }
        Check.due("appendCharacter to 60 characters", x.appendCharacter('a'), FULL);
        for (int wrong : wrongs) {
            Check.due("appendCharacter, character before room", x.appendCharacter(wrong), BAD_VALUE);
        }
        Check.due("the input is empty behind a parse", x.parsePolynomial(0), SYNTAX_ERROR);
        Check.due("appendCharacter to an empty input", x.appendCharacter('b'), 1);
        Check.due("the input", x.parsePolynomial(0), 1);
        Check.due("the input", Check.polynomial(x, 0), "1*b");
    }

    private static void promise34ParsePolynomial() {
        dueParse("a", 1, "1*a");
        dueParse("-a", 1, "-1*a");
        dueParse("0", 0, "");
        dueParse("-0", 0, "");
        dueParse("12", 1, "12*");
        dueParse("-12", 1, "-12*");
        dueParse("0000001", 1, "1*");
        dueParse("0000012abc", 1, "12*abc");
        dueParse("0abc+b", 1, "1*b");
        dueParse("1000000cba-1000000", 2, "-1000000* 1000000*cba");
        dueParse("aaaaaaaa+bc", 2, "1*bc 1*aaaaaaaa");
        dueParse("3-3+ab-ba", 2, "1*ab -1*ba");
        dueParse("b+a+ab+1-a-a", 4, "1* -1*a 1*b 1*ab");
        dueParse("9999999a-9999998a", 1, "1*a");
        dueParse("999999-9999999+9999999", 1, "999999*");
        dueParse("9999999", OVERFLOW, "7*c");
        dueParse("1000001a", OVERFLOW, "7*c");
        dueParse("-1000000a-a", OVERFLOW, "7*c");
        dueParse("1000000a+a", OVERFLOW, "7*c");
    }

    private static void dueParse(String text, int want, String polynomial) {
        ShuffleAlgebra x = Check.withPolynomials("c", "7c", "b");
        x.write(0);
        Check.due("parse of " + text, Check.parse(x, text, 1), want);
        Check.due("state behind the parse of " + text, Check.state(x), ",,,[1*c][" + polynomial + "][1*b][][]c");
        Check.dueInputLength("parse of " + text, x, 0);
    }

    private static void promise34ErrorPositions() {
        dueError("", 0);
        dueError("-", 1);
        dueError("+", 0);
        dueError("+a", 0);
        dueError("--a", 1);
        dueError("-+a", 1);
        dueError("a+", 2);
        dueError("a-", 2);
        dueError("a+-b", 2);
        dueError("a++b", 2);
        dueError("a1", 1);
        dueError("2a3", 2);
        dueError("12345678", 7);
        dueError("00000001", 7);
        dueError("1+12345678a", 9);
        dueError("abcabcabc", 8);
        dueError("1234567abcabcabc", 15);
        dueError("a b", 1);
        dueError(" a", 0);
        dueError("a ", 1);
        dueError("d", 0);
        dueError("A", 0);
        dueError("`", 0);
        dueError("3/", 1);
        dueError("3:", 1);
        dueError("2*a", 1);
        dueError("9999999+d", 8);
        ShuffleAlgebra x = Check.busy();
        String before = Check.state(x);
        for (int wrong : NO_REGISTERS) {
            Check.type(x, "+");
            Check.due("parse, register before syntax", x.parsePolynomial(wrong), NO_SUCH_REGISTER);
            Check.dueInputLength("parse to no register", x, 0);
        }
        Check.due("state after errors", Check.state(x), before);
    }

    private static void dueError(String text, int position) {
        dueParse(text, SYNTAX_ERROR - position, "7*c");
    }

    private static void promise34LongTexts() {
        String sixty = "a+b-c+aa+ab+ac+ba+bb+bc+ca+cb+cc+1-a+b+1000000abcabcab-7abca";
        Check.due("the length of a text", sixty.length(), 60);
        dueParse(sixty, 14, "1* 2*b -1*c 1*aa 1*ab 1*ac 1*ba 1*bb 1*bc 1*ca 1*cb 1*cc -7*abca 1000000*abcabcab");
        dueError(sixty.substring(0, 59) + "+", 60);
        dueParse("-1" + "-1".repeat(29), 1, "-30*");
    }

    private static void promise35Write() {
        dueWritten("0");
        dueWritten("1");
        dueWritten("-1");
        dueWritten("a");
        dueWritten("-a");
        dueWritten("10a");
        dueWritten("-10a");
        dueWritten("1-a+b-2c+1000000cccccccc");
        dueWritten("-1+a");
        dueWritten("-1000000-1000000a");
        ShuffleAlgebra x = Check.withPolynomials("001ba+0002-1cc+ab", "b");
        Check.due("the term order", Check.written(x, 0), "2+ab+ba-cc");
        String before = Check.state(x);
        for (int wrong : NO_REGISTERS) {
            Check.due("write of no register", x.write(wrong), NO_SUCH_REGISTER);
        }
        Check.due("state after errors", Check.state(x), before);
        Check.due("write in place of an output", x.write(1), 1);
        Check.due("the output", Check.output(x), "b");
        writeLongestText();
    }

    private static void writeLongestText() {
        ShuffleAlgebra x = new ShuffleAlgebra();
        StringBuilder want = new StringBuilder();
        for (int i = 0; i < 120; i++) {
            String word = "cab" + Check.fiveLetters(i);
            Check.setWord(x, 0, word);
            x.addTerm(0, 0, -1000000);
            want.append("-1000000").append(word);
        }
        Check.due("write of 120 terms", x.write(0), 120 * 16);
        Check.due("write of 120 terms", Check.output(x), want.toString());
    }

    private static void dueWritten(String text) {
        ShuffleAlgebra x = Check.withPolynomials("c", text);
        Check.due("write of " + text, x.write(1), text.length());
        Check.due("write of " + text, Check.output(x), text);
    }

    private static void promise36OutputCharacter() {
        ShuffleAlgebra x = Check.withPolynomials("2-ab");
        Check.due("outputCharacter before a write", x.outputCharacter(0), NONE);
        x.write(0);
        int[] characters = {'2', '-', 'a', 'b'};
        for (int i = 0; i < characters.length; i++) {
            Check.due("outputCharacter", x.outputCharacter(i), characters[i]);
        }
        for (int wrong : new int[] {-1, 4, 60, Integer.MIN_VALUE, Integer.MAX_VALUE}) {
            Check.due("outputCharacter of no index", x.outputCharacter(wrong), NONE);
        }
        Check.parse(x, "c", 0);
        Check.due("outputCharacter behind a parse", x.outputCharacter(0), '2');
        x.write(0);
        Check.due("outputCharacter behind a write", x.outputCharacter(0), 'c');
        Check.due("outputCharacter of an old text", x.outputCharacter(1), NONE);
    }

    private static void promise37Transform() {
        String all = "3+a-2ab+5ba+7aab-aba+4abcabcac";
        dueTransformed("reverse", all, "3+a+5ab-2ba-aba+7baa+4cacbacba");
        dueTransformed("negate", all, "-3-a+2ab-5ba-7aab+aba-4abcabcac");
        dueTransformed("even", all, "3-2ab+5ba+4abcabcac");
        dueTransformed("odd", all, "a+7aab-aba");
        dueTransformed("lyndon", all, "a-2ab+7aab+4abcabcac");
        for (String name : new String[] {"reverse", "negate", "even", "odd", "lyndon"}) {
            dueTransformed(name, "0", "0");
        }
        dueTransformed("negate", "1000000-1000000c", "-1000000+1000000c");
    }

    private static void dueTransformed(String name, String text, String want) {
        for (int target = 0; target < 2; target++) {
            ShuffleAlgebra x = Check.withPolynomials(text, "b");
            Check.type(x, name);
            Check.due(name + " of " + text, x.transform(0, target), x.termCount(target));
            Check.due(name + " of " + text, Check.written(x, target), want);
            Check.due("the other register", Check.written(x, 1 - target), target == 0 ? "b" : text);
            Check.dueInputLength(name, x, 0);
        }
    }

    private static void promise37Errors() {
        ShuffleAlgebra x = Check.busy();
        Check.due("the input of a busy object", Check.parse(x, "", 4), 1);
        String before = Check.state(x);
        String[] wrongs = {"", "rev", "reversed", "Reverse", "odd ", " odd", "eve", "lyndo", "negat", "lyndonn", "a"};
        for (String wrong : wrongs) {
            Check.type(x, wrong);
            Check.due("transform by " + wrong, x.transform(0, 1), NO_SUCH_NAME);
            Check.dueInputLength("transform by " + wrong, x, 0);
            Check.due("the character of that question", x.transform(0, 1), NO_SUCH_NAME);
        }
        for (int wrong : NO_REGISTERS) {
            Check.type(x, "odd");
            Check.due("transform of no register", x.transform(wrong, 0), NO_SUCH_REGISTER);
            Check.type(x, "odd");
            Check.due("transform to no register", x.transform(0, wrong), NO_SUCH_REGISTER);
            Check.type(x, "od");
            Check.due("transform, register before name", x.transform(wrong, 0), NO_SUCH_REGISTER);
            Check.dueInputLength("transform of no register", x, 0);
            Check.due("the character of that question", x.transform(0, wrong), NO_SUCH_REGISTER);
        }
        Check.due("state after errors", Check.state(x), before);
    }
}
