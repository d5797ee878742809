import java.util.List;

/** The boundary cases that "Terms" and the constants name for all promises together, sentence by sentence. */
public final class BoundaryDefinitionsTest {
    private static final int NO_SUCH_REGISTER = ShuffleAlgebra.NO_SUCH_REGISTER;
    private static final int NO_SUCH_WORD = ShuffleAlgebra.NO_SUCH_WORD;
    private static final int NO_SUCH_LETTER = ShuffleAlgebra.NO_SUCH_LETTER;
    private static final int BAD_VALUE = ShuffleAlgebra.BAD_VALUE;
    private static final int FULL = ShuffleAlgebra.FULL;
    private static final int TOO_LONG = ShuffleAlgebra.TOO_LONG;
    private static final int OVERFLOW = ShuffleAlgebra.OVERFLOW;
    private static final int NONE = ShuffleAlgebra.NONE;
    private static final int NOT_LYNDON = ShuffleAlgebra.NOT_LYNDON;
    private static final int NO_SUCH_NAME = ShuffleAlgebra.NO_SUCH_NAME;
    private static final int SYNTAX_ERROR = ShuffleAlgebra.SYNTAX_ERROR;
    private static final long NO_VALUE = ShuffleAlgebra.NO_VALUE;
    private static final int CONCATENATION = ShuffleAlgebra.CONCATENATION;
    private static final int SHUFFLE = ShuffleAlgebra.SHUFFLE;
    private static final int INFILTRATION = ShuffleAlgebra.INFILTRATION;

    public static void main(String[] args) throws ReflectiveOperationException {
        Boundaries.run(BoundaryDefinitionsTest.class);
    }

    private static String written(String text) {
        return Check.written(Check.withPolynomials(text), 0);
    }

    private static int parsed(String text) {
        return Check.parse(new ShuffleAlgebra(), text, 0);
    }

    private static void dueProduct(int kind, String p, String q, String want) {
        Boundaries.result("product " + kind + " of " + p + " and " + q, x -> x.multiply(kind, 0, 1, 4), want, p, q);
    }

    // ---- what it is

    @Holds(in = "What it is", says = "An object is used for at most 512 calls after it has been made")
    static void fiveHundredAndTwelveCalls() {
        ShuffleAlgebra x = new ShuffleAlgebra();
        for (int call = 1; call < 512; call++) {
            Check.due("call " + call, x.addTerm(0, 0, -1), 1);
        }
        Check.due("call 512", x.coefficient(0, 0), -511);
        ShuffleAlgebra y = Check.withWords("ccbbbaaa");
        for (int call = 10; call < 512; call++) {
            Check.due("call " + call, y.basis(0, 0), FULL);
        }
        Check.due("call 512", y.termCount(0), 0);
    }

    // ---- words

    @Holds(in = "Words", says = "The alphabet has the letters a, b and c, with the numbers 0, 1 and 2")
    static void alphabet() {
        String[] letters = {"a", "b", "c"};
        for (int letter = 0; letter < 3; letter++) {
            ShuffleAlgebra x = Check.withPolynomials(letters[letter]);
            Check.due("the number of " + letters[letter], x.termLetter(0, 0, 0), letter);
            x.appendLetter(0, letter);
            Check.due("the letter " + letter, x.coefficient(0, 0), 1);
        }
        Check.due("the letter d", parsed("d"), SYNTAX_ERROR);
        Check.due("the letter with the number 3", new ShuffleAlgebra().appendLetter(0, 3), NO_SUCH_LETTER);
        Check.due("the letter with the number -1", new ShuffleAlgebra().appendLetter(0, -1), NO_SUCH_LETTER);
    }

    @Holds(in = "Words", says = "A word has at most 8 letters and may be empty")
    static void longestAndEmptyWord() {
        ShuffleAlgebra x = Check.withWords("cbacbacb");
        Check.due("a ninth letter", x.appendLetter(0, 0), FULL);
        Check.due("the full word in a polynomial", x.addTerm(0, 0, 1), 1);
        Check.due("the empty word in a polynomial", x.addTerm(0, 1, 1), 2);
        Check.due("the length of the empty word", x.termLength(0, 0), 0);
        Check.due("the length of the full word", x.termLength(0, 1), 8);
        Check.due("the text", Check.written(x, 0), "1+cbacbacb");
        Check.due("a text with nine letters", parsed("cbacbacba"), SYNTAX_ERROR - 8);
    }

    @Holds(in = "Words", says = "The term order compares lengths first, and words of the same length letter by letter")
    static void termOrder() {
        Check.due("lengths", written("aaaaaaaa+ccccccc+aaa+cc+aa+c+1"), "1+c+aa+cc+aaa+ccccccc+aaaaaaaa");
        Check.due("the first letters", written("cab+bab+aab+bcc+acc"), "aab+acc+bab+bcc+cab");
        Check.due("the last letters", written("aaaaaaac+aaaaaaab+aaaaaaba+aaaaaaaa"), "aaaaaaaa+aaaaaaab+aaaaaaac+aaaaaaba");
    }

    @Holds(in = "Words", says = "The dictionary order compares words letter by letter, and a word comes before every longer word"
            + " that begins with it")
    static void dictionaryOrder() {
        String[][] steps = {{"a", "aaaaaaab"}, {"aaaaaaac", "aaaaaab"}, {"aaaaaab", "aaaaaabb"}, {"accccccc", "b"}, {"b", "bbbbbbbc"}};
        for (String[] step : steps) {
            ShuffleAlgebra x = Check.withWords(step[0]);
            x.nextLyndon(0, 8);
            Check.due("the word behind " + step[0], Check.word(x, 0), step[1]);
        }
        Check.due("a word behind a suffix with which it begins", Check.withWords("aba").isLyndon(0), 0);
        Check.due("a word before its suffixes", Check.withWords("aab").isLyndon(0), 1);
        ShuffleAlgebra x = Check.withWords("aaaaaaaa", "a");
        Check.due("eight letters are behind one", x.nextLyndon(1, 1), 1);
        Check.due("the next", Check.word(x, 1), "b");
    }

    @Holds(in = "Words", says = {"A subword of a word is given by a set of positions of the word",
        "it consists of the letters at these positions, in their order",
        "Two different sets of positions count as different occurrences"})
    static void subwords() {
        String[][] pairs = {{"", "", "1"}, {"", "abcabcab", "1"}, {"abcabcab", "abcabcab", "1"}, {"ab", "ba", "0"}, {"ab", "aab", "2"},
            {"a", "aaaaaaaa", "8"}, {"aaaa", "aaaaaaaa", "70"}, {"aaaaaaa", "aaaaaaaa", "8"}, {"ac", "abcabc", "3"}};
        for (String[] pair : pairs) {
            int want = Integer.parseInt(pair[2]);
            Check.due(pair[0] + " in " + pair[1], Check.withWords(pair[0], pair[1]).subwordCount(0, 1), want);
        }
    }

    // ---- word buffers

    @Holds(in = "Word buffers", says = {"There are 3 word buffers, numbered 0 to 2, each of which holds a word",
        "They are empty at first"})
    static void wordBuffers() {
        ShuffleAlgebra x = new ShuffleAlgebra();
        for (int word = 0; word < 3; word++) {
            Check.due("wordLength(" + word + ")", x.wordLength(word), 0);
        }
        String[] words = {"aaaaaaaa", "bbbbbbbb", "cccccccc"};
        for (int word = 0; word < 3; word++) {
            Check.setWord(x, word, words[word]);
        }
        for (int word = 0; word < 3; word++) {
            Check.due("word " + word, Check.word(x, word), words[word]);
        }
        Check.due("wordLength(3)", x.wordLength(3), NO_SUCH_WORD);
        Check.due("wordLength(-1)", x.wordLength(-1), NO_SUCH_WORD);
    }

    // ---- polynomials

    @Holds(in = "Polynomials", says = {"A term consists of a coefficient, an integer from -1000000 to 1000000 that is not 0, and a word",
        "different terms have different words"})
    static void termsOfAPolynomial() {
        Check.due("both ends", written("1000000a-1000000b"), "1000000a-1000000b");
        Check.due("behind the end", parsed("1000001a"), OVERFLOW);
        Check.due("before the other end", parsed("-1000001a"), OVERFLOW);
        Check.due("a coefficient 0", parsed("0a+b"), 1);
        Check.due("the same word twice", written("2ab+3ab"), "5ab");
        Check.due("the empty word twice", written("2+3"), "5");
        ShuffleAlgebra x = Check.withWords("ab");
        x.addTerm(0, 0, 2);
        Check.due("addTerm of the same word", x.addTerm(0, 0, 3), 1);
        Check.due("the coefficient", x.termCoefficient(0, 0), 5);
        Check.due("addTerm to the coefficient 0", x.addTerm(0, 0, -5), 0);
    }

    @Holds(in = "Polynomials", says = "A polynomial has at most 120 terms, and may have none, in which case it is 0")
    static void mostAndFewestTerms() {
        ShuffleAlgebra x = new ShuffleAlgebra();
        Check.due("no terms", x.termCount(0), 0);
        Check.due("no terms, written", Check.written(x, 0), "0");
        Boundaries.fill(x, 2, 0);
        Check.due("120 terms", x.termCount(2), 120);
        Check.due("a 121st term", x.addTerm(2, 0, 1), FULL);
        Check.due("a polynomial minus itself", x.scale(2, -1, 3), 120);
        Check.due("a polynomial minus itself", x.add(2, 3, 3), 0);
        Check.due("0, written", Check.written(x, 3), "0");
    }

    @Holds(in = "Polynomials", says = "The terms are numbered from 0 in the term order of their words")
    static void numbersOfTerms() {
        ShuffleAlgebra x = Check.withPolynomials("4cccccccc+3aa+2c+1");
        for (int term = 0; term < 4; term++) {
            Check.due("term " + term, x.termCoefficient(0, term), term + 1);
        }
        Check.due("term -1", x.termCoefficient(0, -1), NO_VALUE);
        Check.due("term 4", x.termCoefficient(0, 4), NO_VALUE);
        Check.setWord(x, 0, "b");
        x.addTerm(0, 0, 7);
        Check.due("a new term between", Check.polynomial(x, 0), "1* 7*b 2*c 3*aa 4*cccccccc");
        Check.setWord(x, 0, "");
        x.addTerm(0, 0, -1);
        Check.due("the first term away", x.termCoefficient(0, 0), 7);
    }

    @Holds(in = "Polynomials", says = {"There are 5 registers, numbered 0 to 4, each of which holds a polynomial",
        "They are 0 at first"})
    static void registers() {
        ShuffleAlgebra x = new ShuffleAlgebra();
        for (int register = 0; register < 5; register++) {
            Check.due("termCount(" + register + ")", x.termCount(register), 0);
            Check.due("register " + register, Check.written(x, register), "0");
        }
        String[] polynomials = {"1", "a", "-b", "2cc", "abc-cba"};
        x = Check.withPolynomials(polynomials);
        for (int register = 0; register < 5; register++) {
            Check.due("register " + register, Check.written(x, register), polynomials[register]);
        }
        Check.due("termCount(5)", x.termCount(5), NO_SUCH_REGISTER);
        Check.due("termCount(-1)", x.termCount(-1), NO_SUCH_REGISTER);
    }

    // ---- products of words

    @Holds(in = "Products of words", says = "The concatenation of u and v is the word u followed by v")
    static void concatenation() {
        dueProduct(CONCATENATION, "a", "b", "ab");
        dueProduct(CONCATENATION, "cbac", "bacb", "cbacbacb");
        dueProduct(CONCATENATION, "a", "bbbbbbb", "abbbbbbb");
        dueProduct(CONCATENATION, "aaaaaaa", "b", "aaaaaaab");
    }

    @Holds(in = "Products of words", says = "The shuffle of u and v is the sum, over all ways to choose as many positions as u has"
            + " letters in a word of as many letters as u and v have together, of the word that has the letters of u, in their order,"
            + " at the chosen positions, and the letters of v, in their order, at the others")
    static void shuffle() {
        dueProduct(SHUFFLE, "a", "a", "2aa");
        dueProduct(SHUFFLE, "a", "b", "ab+ba");
        dueProduct(SHUFFLE, "ab", "ba", "abab+2abba+2baab+baba");
        dueProduct(SHUFFLE, "aaaa", "aaaa", "70aaaaaaaa");
        dueProduct(SHUFFLE, "b", "aaaaaaa", "aaaaaaab+aaaaaaba+aaaaabaa+aaaabaaa+aaabaaaa+aabaaaaa+abaaaaaa+baaaaaaa");
        Check.due("all ways", Check.withPolynomials("aaaa", "bbbb").multiply(SHUFFLE, 0, 1, 2), 70);
    }

    @Holds(in = "Products of words", says = {"The infiltration of u and v is the sum, over all triples of a word w and two sets of"
            + " positions of w that together contain every position of w, of w, where the first set gives the subword u and the second"
            + " one gives the subword v", "For example, the infiltration of a and a is 2aa + a"})
    static void infiltration() {
        dueProduct(INFILTRATION, "a", "a", "a+2aa");
        dueProduct(INFILTRATION, "a", "b", "ab+ba");
        dueProduct(INFILTRATION, "ab", "ab", "ab+2aab+2abb+4aabb+2abab");
        dueProduct(INFILTRATION, "ab", "ba", "aba+bab+abab+2abba+2baab+baba");
        dueProduct(INFILTRATION, "aaaa", "aaaa", "aaaa+20aaaaa+90aaaaaa+140aaaaaaa+70aaaaaaaa");
        ShuffleAlgebra x = Check.withWords("a", "a", "aa");
        Check.due("coverCount in aa", x.coverCount(0, 1, 2), 2);
        Check.due("coverCount in a", x.coverCount(0, 1, 0), 1);
    }

    @Holds(in = "Products of words", says = "If one of the words is empty, every product is the other word")
    static void productsOfTheEmptyWord() {
        for (int kind = 0; kind < 3; kind++) {
            for (String word : new String[] {"1", "a", "ca", "cbacbacb"}) {
                dueProduct(kind, "1", word, word);
                dueProduct(kind, word, "1", word);
            }
        }
    }

    @Holds(in = "Products of words", says = {"The product of two polynomials is the sum, over all pairs of a term of the first and a"
            + " term of the second one, of the product of the two words times both coefficients",
        "terms with the same word are added up, and terms with the coefficient 0 are left out"})
    static void productsOfPolynomials() {
        for (int kind = 0; kind < 3; kind++) {
            dueProduct(kind, "0", "1000000+cccccccc", "0");
            dueProduct(kind, "-3", "1+2a", "-3-6a");
        }
        dueProduct(CONCATENATION, "a+aa", "a-aa", "aa-aaaa");
        dueProduct(SHUFFLE, "a+b", "a-b", "2aa-2bb");
        dueProduct(SHUFFLE, "3+2a", "-7+5b", "-21-14a+15b+10ab+10ba");
        dueProduct(INFILTRATION, "a+b", "a-b", "a-b+2aa-2bb");
        dueProduct(INFILTRATION, "-2+a", "1+a", "-2+2aa");
    }

    @Holds(in = "Products of words", says = "The same holds for all other results")
    static void sameWordsInAllResults() {
        Boundaries.result("add", x -> x.add(0, 1, 4), "5a", "2a-b", "3a+b");
        Boundaries.result("scale", x -> x.scale(0, 0, 4), "0", "2a-b");
        Boundaries.result("derive", x -> x.derive(0, 0, 4), "3ab-ba", "aab+aba-baa");
        Boundaries.result("derive", x -> x.derive(0, 0, 4), "0", "ab-ba");
        Boundaries.result("coordinates", x -> x.coordinates(0, 4), "ba", "ab+ba");
        ShuffleAlgebra x = Check.withWords("aab", "baa");
        x.bracket(0, 0);
        Check.due("bracket", Check.written(x, 0), "aab-2aba+baa");
        x.basis(1, 0);
        Check.due("basis", Check.written(x, 0), "aab+aba+baa");
        Check.due("parse", written("a+b-a+2b"), "3b");
    }

    // ---- Lyndon words

    @Holds(in = "Lyndon words", says = {"A Lyndon word is a word of at least one letter that comes before each of its proper suffixes"
            + " in the dictionary order", "a proper suffix has at least one letter and is shorter than the word"})
    static void lyndonWords() {
        String[] lyndon = {"a", "b", "c", "ab", "aab", "abb", "abac", "aaaaaaab", "abcabcac"};
        String[] others = {"", "aa", "ba", "aba", "abab", "aaba", "aaaaaaaa", "abcabcab", "baaaaaaa"};
        for (int i = 0; i < lyndon.length; i++) {
            Check.due("isLyndon of " + lyndon[i], Check.withWords(lyndon[i]).isLyndon(0), 1);
            Check.due("isLyndon of " + others[i], Check.withWords(others[i]).isLyndon(0), 0);
        }
    }

    @Holds(in = "Lyndon words", says = {"Every word is in exactly one way a concatenation of Lyndon words, its factors, each of which"
            + " comes, in the dictionary order, not before the next one", "The empty word has no factors"})
    static void factors() {
        String[] words = {"", "a", "aa", "ab", "ba", "abab", "aba", "abaab", "aaaaaaaa", "ababaaba", "cccccccc", "cbacbacb"};
        int[][] starts = {{}, {0}, {0, 1}, {0}, {0, 1}, {0, 2}, {0, 2}, {0, 2}, {0, 1, 2, 3, 4, 5, 6, 7}, {0, 2, 4, 7},
            {0, 1, 2, 3, 4, 5, 6, 7}, {0, 1, 2, 5}};
        for (int i = 0; i < words.length; i++) {
            ShuffleAlgebra x = Check.withWords(words[i]);
            Check.due("factorCount of " + words[i], x.factorCount(0), starts[i].length);
            for (int factor = 0; factor < starts[i].length; factor++) {
                Check.due("factorStart of " + words[i], x.factorStart(0, factor), starts[i][factor]);
            }
            Check.due("the factor behind the last of " + words[i], x.factorStart(0, starts[i].length), NONE);
            Check.setWord(x, 1, "abcabcac");
            Check.due("factorCount of a longer word", x.factorCount(1), 1);
            Check.due("factorCount of " + words[i] + " behind it", x.factorCount(0), starts[i].length);
        }
    }

    // ---- brackets

    @Holds(in = "Brackets", says = {"The commutator of two polynomials p and q is the concatenation of p and q minus the concatenation"
            + " of q and p", "The bracket of a Lyndon word of one letter is that word"})
    static void shortestBrackets() {
        dueBracket("a", "a");
        dueBracket("b", "b");
        dueBracket("c", "c");
        dueBracket("ab", "ab-ba");
        dueBracket("bc", "bc-cb");
    }

    @Holds(in = "Brackets", says = {"The bracket of a longer Lyndon word w is the commutator of the brackets of u and v, where w is the"
            + " concatenation of u and v, and v is the longest proper suffix of w that is a Lyndon word", "u is then a Lyndon word, too"})
    static void longerBrackets() {
        dueBracket("aab", "aab-2aba+baa");
        dueBracket("abb", "abb-2bab+bba");
        dueBracket("abc", "abc-acb-bca+cba");
        dueBracket("acb", "acb-bac+bca-cab");
        dueBracket("aabb", "aabb-2abab+2baba-bbaa");
        dueBracket("aaaaaaab", "aaaaaaab-7aaaaaaba+21aaaaabaa-35aaaabaaa+35aaabaaaa-21aabaaaaa+7abaaaaaa-baaaaaaa");
    }

    private static void dueBracket(String word, String want) {
        ShuffleAlgebra x = Check.withWords(word);
        Check.due("bracket of " + word, x.bracket(0, 4), x.termCount(4));
        Check.due("bracket of " + word, Check.written(x, 4), want);
    }

    // ---- basis

    @Holds(in = "Basis", says = {"The basis polynomial of a word w is the shuffle product of all its factors, divided by the product of"
            + " the factorials of the numbers of times that each different factor occurs", "All coefficients are integers",
        "The basis polynomial of the empty word is the empty word"})
    static void basisPolynomials() {
        String[][] pairs = {{"", "1"}, {"a", "a"}, {"aa", "aa"}, {"aaaaaaaa", "aaaaaaaa"}, {"ba", "ab+ba"}, {"baa", "aab+aba+baa"},
            {"abab", "2aabb+abab"}, {"ababab", "6aaabbb+4aababb+2aabbab+2abaabb+ababab"}, {"aabaab",
                "6aaaabb+3aaabab+aabaab"}};
        for (String[] pair : pairs) {
            ShuffleAlgebra x = Check.withWords(pair[0]);
            x.basis(0, 1);
            Check.due("basis of " + pair[0], Check.written(x, 1), pair[1]);
        }
    }

    @Holds(in = "Basis", says = {"The coefficient of w in it is 1, and all its words have the length of w and do not come after w in"
            + " the dictionary order", "Every polynomial p is in exactly one way a sum of basis polynomials times integers",
        "the coordinate polynomial of p has for each word the integer by which its basis polynomial is multiplied as its coefficient"})
    static void coordinatesOfBasisPolynomials() {
        for (String word : Model.allWords(6)) {
            ShuffleAlgebra x = Check.withWords(word);
            int terms = x.basis(0, 1);
            Check.due("the coefficient of " + word, x.coefficient(1, 0), 1);
            Check.due("the length of the first word", x.termLength(1, 0), word.length());
            Check.due("the length of the last word", x.termLength(1, terms - 1), word.length());
            String last = Check.polynomial(x, 1);
            Check.due("the last word", last.substring(last.lastIndexOf('*') + 1), word);
            Check.due("coordinates of the basis polynomial of " + word, x.coordinates(1, 2), 1);
            Check.due("the coordinate of " + word, x.coefficient(2, 0), 1);
        }
        Boundaries.result("coordinates of words of all lengths", x -> x.coordinates(0, 4), "3-2a-ab+ba-aab+5baa",
                "3-2a+ba+4aab+5aba+5baa");
    }

    // ---- text

    @Holds(in = "Text", says = {"The input is a buffer of at most 60 characters",
        "The length limit of the buffer is not part of this syntax"})
    static void inputLength() {
        ShuffleAlgebra x = new ShuffleAlgebra();
        String fiftyNine = "a" + "+a".repeat(29);
        Check.type(x, fiftyNine);
        Check.due("the sixtieth character", x.appendCharacter('+'), 60);
        Check.due("the character behind", x.appendCharacter('a'), FULL);
        Check.due("a text that could go on behind 60 characters", x.parsePolynomial(0), SYNTAX_ERROR - 60);
        Check.due("59 characters", Check.parse(x, fiftyNine, 0), 1);
        Check.due("the coefficient", x.termCoefficient(0, 0), 30);
        Check.due("60 characters", Check.parse(x, "-" + fiftyNine, 0), 1);
        Check.due("the coefficient", x.termCoefficient(0, 0), 28);
    }

    @Holds(in = "Text", says = {"A polynomial is written as an optional minus sign, a term, and any number of further terms, each after"
            + " a plus or minus sign", "There are no spaces"})
    static void signsAndSpaces() {
        Check.due("one term", parsed("a"), 1);
        Check.due("a minus sign and a term", parsed("-a"), 1);
        Check.due("30 terms", written("1" + "+1".repeat(29)), "30");
        Check.due("a minus sign alone", parsed("-"), SYNTAX_ERROR - 1);
        Check.due("a plus sign before the first term", parsed("+a"), SYNTAX_ERROR);
        Check.due("two minus signs", parsed("--a"), SYNTAX_ERROR - 1);
        Check.due("two signs between", parsed("a+-b"), SYNTAX_ERROR - 2);
        Check.due("a sign at the end", parsed("a+"), SYNTAX_ERROR - 2);
        Check.due("a space at the beginning", parsed(" a"), SYNTAX_ERROR);
        Check.due("a space between", parsed("a +b"), SYNTAX_ERROR - 1);
        Check.due("a space in a term", parsed("2 a"), SYNTAX_ERROR - 1);
        Check.due("a space at the end", parsed("a "), SYNTAX_ERROR - 1);
    }

    @Holds(in = "Text", says = {"A term is a number, or a word of 1 to 8 letters, or a number followed by such a word",
        "A number has 1 to 7 decimal digits"})
    static void longestTerms() {
        Check.due("one digit", written("7"), "7");
        Check.due("seven digits", written("1000000"), "1000000");
        Check.due("eight digits", parsed("10000000"), SYNTAX_ERROR - 7);
        Check.due("one letter", written("c"), "c");
        Check.due("eight letters", written("cccccccc"), "cccccccc");
        Check.due("nine letters", parsed("ccccccccc"), SYNTAX_ERROR - 8);
        Check.due("seven digits and eight letters", written("0999999cccccccc"), "999999cccccccc");
        Check.due("seven digits and nine letters", parsed("0999999ccccccccc"), SYNTAX_ERROR - 15);
        Check.due("a digit behind a word", parsed("c1"), SYNTAX_ERROR - 1);
        Check.due("a digit behind a full word", parsed("cccccccc1"), SYNTAX_ERROR - 8);
        Check.due("digits and letters of the next term", written("1000000cccccccc-1000000bbbbbbbb"),
                "-1000000bbbbbbbb+1000000cccccccc");
    }

    @Holds(in = "Text", says = {"without a number, the coefficient is 1 or, after a minus sign, -1",
        "A number without a word belongs to the empty word", "Terms with the same word are added up"})
    static void termsWithoutNumberOrWord() {
        Check.due("a word", written("a"), "a");
        Check.due("a word after a minus sign", written("-a"), "-a");
        Check.due("words", written("b-a+c"), "-a+b+c");
        ShuffleAlgebra x = Check.withPolynomials("7", "-7");
        Check.due("the length of the word of a number", x.termLength(0, 0), 0);
        Check.due("the number", x.termCoefficient(0, 0), 7);
        Check.due("a number after a minus sign", x.termCoefficient(1, 0), -7);
        Check.due("the same word", written("a+2a-4a"), "-a");
        Check.due("the empty word", written("1+2-4"), "-1");
        Check.due("the same word to 0", written("a-a"), "0");
    }

    @Holds(in = "Text", says = {"The error position of an input that is not valid is the smallest index k such that no valid input"
            + " starts with the first k + 1 characters of it", "if there is no such index, it is the length of the input"})
    static void errorPositions() {
        String[] texts = {"", "-", "a+", "1000000cccccccc-", "x", "ax", "a+x", "a+bx", "12345678", "aaaaaaaaa", "+", "a--", "-x", "1x2x"};
        int[] positions = {0, 1, 2, 16, 0, 1, 2, 3, 7, 8, 0, 2, 1, 1};
        for (int i = 0; i < texts.length; i++) {
            Check.due("parse of " + texts[i], parsed(texts[i]), SYNTAX_ERROR - positions[i]);
        }
    }

    // ---- output

    @Holds(in = "Output", says = "The output is a text that is empty at first")
    static void firstOutput() {
        ShuffleAlgebra x = new ShuffleAlgebra();
        Check.due("outputCharacter(0)", x.outputCharacter(0), NONE);
        Check.parse(x, "a", 0);
        Check.due("outputCharacter(0) behind a parse", x.outputCharacter(0), NONE);
        Check.due("write", x.write(0), 1);
        Check.due("outputCharacter(0) behind a write", x.outputCharacter(0), 'a');
    }

    @Holds(in = "Output", says = {"A polynomial is written in the same way, with its terms in their order: a coefficient 1 or -1 is not"
            + " written before a word of at least one letter, a number is written without leading zeros, and there is no plus sign"
            + " before the first term", "The polynomial 0 is written as 0"})
    static void outputs() {
        String[][] pairs = {{"0", "0"}, {"1", "1"}, {"-1", "-1"}, {"1a", "a"}, {"-1a", "-a"}, {"0000010a", "10a"}, {"b-1", "-1+b"},
            {"0000002-0000001c", "2-c"}, {"cccccccc-1", "-1+cccccccc"}, {"a-a", "0"}, {"1c+1b-1a", "-a+b+c"}, {"2c-2b", "-2b+2c"},
            {"-1000000+11a-11b", "-1000000+11a-11b"}};
        for (String[] pair : pairs) {
            Check.due("the output of " + pair[0], written(pair[0]), pair[1]);
        }
    }

    // ---- more precisely

    @Holds(in = "More precisely", says = {"Numbers in a text can have leading zeros",
        "a ninth letter or eighth digit is an error at its place, as is a plus sign at the beginning", "an empty input is not a text"})
    static void morePreciselyTexts() {
        Check.due("a number of zeros", written("0000000"), "0");
        Check.due("leading zeros", written("0000001a"), "a");
        Check.due("six leading zeros", written("-0000007"), "-7");
        Check.due("an eighth digit", parsed("00000007"), SYNTAX_ERROR - 7);
        Check.due("an eighth digit behind a sign", parsed("-00000007"), SYNTAX_ERROR - 8);
        Check.due("an eighth digit in the second term", parsed("a+00000000"), SYNTAX_ERROR - 9);
        Check.due("a ninth letter", parsed("abcabcabc"), SYNTAX_ERROR - 8);
        Check.due("a ninth letter in the second term", parsed("a-2abcabcabc"), SYNTAX_ERROR - 11);
        Check.due("a plus sign at the beginning", parsed("+7"), SYNTAX_ERROR);
        Check.due("a plus sign behind a minus sign", parsed("-+7"), SYNTAX_ERROR - 1);
        Check.due("a plus sign alone", parsed("+"), SYNTAX_ERROR);
        Check.due("an empty input", parsed(""), SYNTAX_ERROR);
    }

    @Holds(in = "More precisely", says = {"Coefficients are looked at when all terms are added",
        "terms with the coefficient 0 are left out"})
    static void morePreciselyCoefficients() {
        Check.due("a text that leaves the range", written("9999999a-9000000a"), "999999a");
        Check.due("a text that leaves the range twice", written("1000001-2000002+1000001+b"), "b");
        dueProduct(CONCATENATION, "1000a+1000aa-1000aaa", "400+600a+800aa",
                "400000a+1000000aa+1000000aaa+200000aaaa-800000aaaaa");
        Boundaries.result("a derivative that leaves the range", x -> x.derive(0, 0, 4), "800000ab-400000ba", "600000aab-400000aba");
        Boundaries.result("coordinates that leave the range", x -> x.coordinates(0, 4), "-1000000aaba+1000000abaa",
                "1000000aaba+1000000abaa");
        Check.due("a text with coefficients 0", written("0a+0+b-0cc"), "b");
        Boundaries.result("a sum with coefficients 0", x -> x.add(0, 1, 4), "b", "1-a+b", "-1+a");
    }

    @Holds(in = "More precisely", says = "nextLyndon begins with any word, in the order of a dictionary, not by length")
    static void morePreciselyNextLyndon() {
        String[][] steps = {{"", "1", "a"}, {"ba", "8", "bbbbbbbc"}, {"ba", "2", "bc"}, {"aaaaaaaa", "2", "ab"}, {"abab", "3", "abb"},
            {"acb", "1", "b"}, {"a", "3", "aab"}, {"aab", "3", "aac"}, {"aaaaaaaa", "8", "aaaaaaab"}, {"bcacacac", "8", "bcbcbcc"},
            {"abaab", "5", "ababb"}, {"aba", "8", "abababac"}};
        for (String[] step : steps) {
            ShuffleAlgebra x = Check.withWords(step[0]);
            String name = "nextLyndon of " + step[0] + " up to " + step[1];
            Check.due(name, x.nextLyndon(0, Integer.parseInt(step[1])), step[2].length());
            Check.due(name, Check.word(x, 0), step[2]);
        }
        ShuffleAlgebra x = new ShuffleAlgebra();
        for (String word : List.of("a", "aab", "aac", "ab", "abb", "abc", "ac", "acb", "acc", "b", "bbc", "bc", "bcc", "c")) {
            Check.due("the next one up to three letters", x.nextLyndon(0, 3), word.length());
            Check.due("the next one", Check.word(x, 0), word);
        }
        Check.due("the next one behind the last", x.nextLyndon(0, 3), NONE);
    }

    @Holds(in = "More precisely", says = {"multiply fails with TOO_LONG by the longest words of both, also if their terms would cancel",
        "with the polynomial 0 it never does"})
    static void morePreciselyTooLong() {
        for (int i = 0; i < 3; i++) {
            int kind = i;
            Boundaries.unchanged("the longest words of both", () -> Check.withPolynomials("1+aaaa", "1+aaaaa-b"),
                    x -> x.multiply(kind, 0, 1, 2), TOO_LONG);
            Boundaries.unchanged("terms that would cancel", () -> Check.withPolynomials("aaaa-bbbb", "aaaaa+bbbbb"),
                    x -> x.multiply(kind, 0, 1, 2), TOO_LONG);
            dueProduct(kind, "0", "cccccccc", "0");
            dueProduct(kind, "cccccccc", "0", "0");
            dueProduct(kind, "0", "0", "0");
            ShuffleAlgebra x = Boundaries.rich();
            Check.due("9 letters that cancelled before", x.add(0, 4, 0), 4);
            x.scale(3, -1, 1);
            Check.due("a polynomial that cancelled", x.add(3, 1, 1), 0);
            Check.due("its product", x.multiply(kind, 1, 3, 2), 0);
            Check.due("its product", x.multiply(kind, 3, 1, 3), 0);
        }
    }

    @Holds(in = "More precisely", says = "OVERFLOW and FULL are looked at in results alone, in this order")
    static void morePreciselyOrder() {
        Boundaries.Start both = () -> {
            ShuffleAlgebra x = Check.withPolynomials("1+1000000aaaa");
            Boundaries.fill(x, 2, 1);
            return x;
        };
        Boundaries.unchanged("add with 121 terms and a number out of range", both, x -> x.add(0, 2, 3), OVERFLOW);
        Boundaries.unchanged("coordinates with 121 terms and a number out of range",
                () -> Check.withPolynomials("500001bab+b+c+cbaccaba"), x -> x.coordinates(0, 1), OVERFLOW);
        ShuffleAlgebra x = new ShuffleAlgebra();
        Boundaries.fill(x, 2, 0);
        x.scale(2, -1, 3);
        Check.parse(x, "1", 0);
        Check.due("120 terms", x.add(0, 2, 1), FULL);
        Check.setWord(x, 0, "ccbaa");
        Check.due("119 terms", x.addTerm(3, 0, 1), 119);
        Check.setWord(x, 0, "");
        Check.due("another 120th term", x.addTerm(3, 0, 1), 120);
        Check.due("121 words of which 119 cancel", x.add(2, 3, 1), 2);
        Check.due("the sum", Check.written(x, 1), "1+ccbaa");
    }

    @Holds(in = "More precisely", says = {"The sets of an infiltration may overlap", "A word occurs in itself once"})
    static void morePreciselyCounts() {
        for (String word : new String[] {"", "a", "aa", "abab", "abcabcab", "aaaaaaaa"}) {
            ShuffleAlgebra x = Check.withWords(word, word, word);
            Check.due(word + " in itself", x.subwordCount(0, 0), 1);
            Check.due(word + " in another one", x.subwordCount(0, 1), 1);
            Check.due(word + " covered by itself twice", x.coverCount(0, 1, 2), 1);
            Check.due(word + " covered by itself alone", x.coverCount(0, 0, 0), 1);
        }
        Check.due("an overlap of one letter", Check.withWords("ab", "bc", "abc").coverCount(0, 1, 2), 1);
        Check.due("no overlap in a shuffle", Check.withWords("ab", "bc", "abc").splitCount(0, 1, 2), 0);
        Check.due("overlaps of two letters", Check.withWords("aa", "aa", "aa").coverCount(0, 1, 2), 1);
        Check.due("overlaps of one letter", Check.withWords("aa", "aa", "aaa").coverCount(0, 1, 2), 6);
    }

    @Holds(in = "More precisely", says = {"residual makes a letter the empty word", "derive and residual leave the empty word out"})
    static void morePreciselyEmptyWord() {
        for (int letter = 0; letter < 3; letter++) {
            int same = letter;
            String name = new String[] {"a", "b", "c"}[letter];
            Boundaries.result("residual of a letter", x -> x.residual(0, 0, same, 4), "-1000000", "-1000000" + name);
            Boundaries.result("residual of a letter", x -> x.residual(1, 0, same, 4), "7", "7" + name);
            Boundaries.result("derive of a letter", x -> x.derive(0, same, 4), "7", "7" + name);
            Boundaries.result("residual of the empty word", x -> x.residual(0, 0, same, 4), "0", "1000000");
            Boundaries.result("residual of the empty word", x -> x.residual(1, 0, same, 4), "0", "-1");
            Boundaries.result("derive of the empty word", x -> x.derive(0, same, 4), "0", "1000000");
            Boundaries.result("derive beside the empty word", x -> x.derive(0, same, 4), "2", "7+2" + name);
        }
    }

    @Holds(in = "More precisely", says = "even keeps the empty word, and lyndon leaves it out")
    static void morePreciselyTransform() {
        String[] names = {"even", "odd", "lyndon", "reverse", "negate"};
        String[] wants = {"7", "0", "0", "7", "-7"};
        for (int i = 0; i < names.length; i++) {
            ShuffleAlgebra x = Check.withPolynomials("7");
            Check.type(x, names[i]);
            Check.due(names[i] + " of the empty word", x.transform(0, 1), wants[i].equals("0") ? 0 : 1);
            Check.due(names[i] + " of the empty word", Check.written(x, 1), wants[i]);
        }
    }

    @Holds(in = "More precisely", says = "The input is empty behind parsePolynomial and transform in every case")
    static void morePreciselyInput() {
        String[] texts = {"", "a", "0", "+", "9999999", "odd", "odds", "1000000cccccccc", "a+"};
        for (String text : texts) {
            for (int register = -1; register <= 5; register++) {
                ShuffleAlgebra x = new ShuffleAlgebra();
                Check.parse(x, text, register);
                Check.dueInputLength("parse of " + text + " to " + register, x, 0);
                for (int target = -1; target <= 5; target++) {
                    ShuffleAlgebra y = new ShuffleAlgebra();
                    Check.type(y, text);
                    y.transform(register, target);
                    Check.dueInputLength("transform by " + text, y, 0);
                }
            }
        }
    }

    @Holds(in = "More precisely", says = "The polynomial 0 is a Lie polynomial, and the empty word has no bracket")
    static void morePreciselyLie() {
        ShuffleAlgebra x = new ShuffleAlgebra();
        for (int register = 0; register < 5; register++) {
            Check.due("isLie of 0", x.isLie(register), 1);
            for (int word = 0; word < 3; word++) {
                Check.due("bracket of the empty word", x.bracket(word, register), NOT_LYNDON);
            }
        }
        Check.due("isLie of the empty word", Check.withPolynomials("1").isLie(0), 0);
        Check.due("isLie of what cancels", Check.withPolynomials("ab-ab").isLie(0), 1);
    }

    @Holds(in = "More precisely", says = "The snapshot holds neither the input nor the output")
    static void morePreciselySnapshot() {
        ShuffleAlgebra x = Check.withPolynomials("a", "2bb");
        x.write(1);
        Check.type(x, "c");
        x.saveSnapshot();
        Check.due("the output behind saveSnapshot", Check.output(x), "2bb");
        Check.due("the input behind saveSnapshot", x.appendCharacter('b'), 2);
        x.write(0);
        x.restoreSnapshot();
        Check.due("the output behind restoreSnapshot", Check.output(x), "a");
        Check.due("the input behind restoreSnapshot", x.appendCharacter('a'), 3);
        Check.due("the terms of the input", x.parsePolynomial(2), 1);
        Check.due("the input", Check.written(x, 2), "cba");
        x.restoreSnapshot();
        Check.due("the output stays", Check.output(x), "cba");
        Check.dueInputLength("restoreSnapshot", x, 0);
    }

    // ---- the constants

    @Holds(in = "The constants", says = {"NO_SUCH_REGISTER = -1: There is no register with this number",
        "NO_SUCH_WORD = -2: There is no word buffer with this number", "NO_SUCH_LETTER = -3: There is no letter with this number",
        "BAD_VALUE = -4: Another argument is out of range", "FULL = -5: There is no room",
        "TOO_LONG = -6: A word would have more than 8 letters", "OVERFLOW = -7: A coefficient would be out of range",
        "NONE = -8: There is no such term, position, factor, word or snapshot", "NOT_LYNDON = -9: The word is not a Lyndon word",
        "NO_SUCH_NAME = -10: The input is not the name of a transformation"})
    static void errorCodes() {
        int[] constants = {NO_SUCH_REGISTER, NO_SUCH_WORD, NO_SUCH_LETTER, BAD_VALUE, FULL, TOO_LONG, OVERFLOW, NONE, NOT_LYNDON,
            NO_SUCH_NAME};
        for (int i = 0; i < constants.length; i++) {
            Check.due("the constant " + (i + 1), constants[i], -1 - i);
        }
        Boundaries.unchanged("no register", x -> x.termCount(5), -1);
        Boundaries.unchanged("no word", x -> x.wordLength(3), -2);
        Boundaries.unchanged("no letter", x -> x.appendLetter(0, 3), -3);
        Boundaries.unchanged("no value", x -> x.lyndonCount(13), -4);
        Boundaries.unchanged("no room", x -> x.appendLetter(2, 0), -5);
        Boundaries.unchanged("too long", x -> x.multiply(0, 3, 4, 0), -6);
        Boundaries.unchanged("no range", x -> x.add(1, 1, 0), -7);
        Boundaries.unchanged("no term", x -> x.termLength(0, 3), -8);
        Boundaries.unchanged("no position", x -> x.wordLetter(0, 3), -8);
        Boundaries.unchanged("no factor", x -> x.factorStart(0, 1), -8);
        Boundaries.unchanged("no next word", x -> x.nextLyndon(2, 8), -8);
        Boundaries.unchanged("no snapshot", Check::busy, x -> x.restoreSnapshot(), -8);
        Boundaries.unchanged("no Lyndon word", x -> x.bracket(1, 0), -9);
        Boundaries.takesInput("no name", "ood", x -> x.transform(0, 0), -10);
    }

    @Holds(in = "The constants", says = {"SYNTAX_ERROR = -100: A syntax error at position k is reported as SYNTAX_ERROR - k",
        "NO_VALUE = Long.MIN_VALUE: The error value of methods that return any long"})
    static void syntaxErrorAndNoValue() {
        Check.due("SYNTAX_ERROR", SYNTAX_ERROR, -100);
        Check.due("position 0", parsed("+"), -100);
        Check.due("position 1", parsed("-"), -101);
        Check.due("position 59", parsed("a" + "+a".repeat(29) + "x"), -159);
        Check.due("position 60", parsed("a+".repeat(30)), -160);
        Check.due("NO_VALUE", NO_VALUE, -9223372036854775808L);
        Boundaries.unchanged("coefficient", x -> x.coefficient(5, 0), Long.MIN_VALUE);
        Boundaries.unchanged("termCoefficient", x -> x.termCoefficient(0, 3), Long.MIN_VALUE);
        Boundaries.unchanged("pair", x -> x.pair(0, 5), Long.MIN_VALUE);
    }

    @Holds(in = "The constants", says = {"CONCATENATION = 0: The concatenation product", "SHUFFLE = 1: The shuffle product",
        "INFILTRATION = 2: The infiltration product"})
    static void kindsOfProducts() {
        Check.due("CONCATENATION", CONCATENATION, 0);
        Check.due("SHUFFLE", SHUFFLE, 1);
        Check.due("INFILTRATION", INFILTRATION, 2);
        dueProduct(0, "a", "a", "aa");
        dueProduct(1, "a", "a", "2aa");
        dueProduct(2, "a", "a", "a+2aa");
    }
}
