/** Promises 10 to 16: the boundary cases that the document names, sentence by sentence. */
public final class BoundaryLyndonTest {
    private static final int NO_SUCH_REGISTER = ShuffleAlgebra.NO_SUCH_REGISTER;
    private static final int NO_SUCH_WORD = ShuffleAlgebra.NO_SUCH_WORD;
    private static final int BAD_VALUE = ShuffleAlgebra.BAD_VALUE;
    private static final int FULL = ShuffleAlgebra.FULL;
    private static final int NONE = ShuffleAlgebra.NONE;
    private static final int NOT_LYNDON = ShuffleAlgebra.NOT_LYNDON;
    private static final int[] NO_LENGTHS = {0, 9, -1, 256 + 1, 65536 + 8, Integer.MIN_VALUE, Integer.MAX_VALUE};
    private static final String BRACKET_OF_120 = "ababcbac";
    private static final String BRACKET_OF_128 = "aacbabcb";
    private static final String BASIS_OF_120 = "baccaaaa";
    private static final String BASIS_OF_121 = "acabcaba";

    public static void main(String[] args) throws ReflectiveOperationException {
        Boundaries.run(BoundaryLyndonTest.class);
    }

    private static ShuffleAlgebra richWithWord(String word) {
        ShuffleAlgebra x = Boundaries.rich();
        Check.setWord(x, 0, word);
        return x;
    }

    // ---- promise 10

    @Holds(in = "Promise 10", says = {"Returns whether a word is a Lyndon word", "Returns 1 if it is, otherwise 0"})
    static void isLyndonFromEmptyToFull() {
        for (String word : new String[] {"a", "b", "c", "ab", "bc", "aaaaaaab", "abbbbbbb", "bccccccc", "aabaabab"}) {
            Check.due("isLyndon of " + word, Check.withWords("", "", word).isLyndon(2), 1);
        }
        for (String word : new String[] {"", "aa", "cc", "ba", "aba", "abab", "aaaaaaaa", "abababab", "baaaaaaa", "aabaabaa"}) {
            Check.due("isLyndon of " + word, Check.withWords("", "", word).isLyndon(2), 0);
        }
        Boundaries.unchanged("isLyndon(0)", x -> x.isLyndon(0), 1);
        Boundaries.unchanged("isLyndon(2)", x -> x.isLyndon(2), 0);
    }

    @Holds(in = "Promise 10", says = {"word: the word buffer, 0 to 2", "NO_SUCH_WORD"})
    static void isLyndonOfNoWord() {
        for (int word = 0; word < 3; word++) {
            ShuffleAlgebra x = new ShuffleAlgebra();
            Check.setWord(x, word, "ab");
            for (int other = 0; other < 3; other++) {
                Check.due("isLyndon(" + other + ")", x.isLyndon(other), other == word ? 1 : 0);
            }
        }
        for (int wrong : Boundaries.NO_WORDS) {
            Boundaries.unchanged("isLyndon(" + wrong + ")", y -> y.isLyndon(wrong), NO_SUCH_WORD);
        }
    }

    // ---- promise 11

    @Holds(in = "Promise 11", says = {"Returns the number of factors of a word", "Returns the number"})
    static void factorCountFromNoneToMost() {
        String[] words = {"", "aaaaaaab", "baaaaaab", "bbaaaaab", "cbaabaab", "abababab", "ccbbaaab", "ccbbaaba", "cbaaaaaa"};
        int[] wants = {0, 1, 2, 3, 4, 4, 5, 6, 8};
        for (int i = 0; i < words.length; i++) {
            Check.due("factorCount of " + words[i], Check.withWords(words[i]).factorCount(0), wants[i]);
        }
        for (int length = 0; length <= 8; length++) {
            Check.due("factorCount", Check.withWords("aaaaaaaa".substring(0, length)).factorCount(0), length);
        }
        Boundaries.unchanged("factorCount(2)", x -> x.factorCount(2), 8);
    }

    @Holds(in = "Promise 11", says = {"word: the word buffer, 0 to 2", "NO_SUCH_WORD"})
    static void factorCountOfNoWord() {
        ShuffleAlgebra x = Check.withWords("ab", "ba", "aaa");
        for (int word = 0; word < 3; word++) {
            Check.due("factorCount(" + word + ")", x.factorCount(word), word + 1);
        }
        for (int wrong : Boundaries.NO_WORDS) {
            Boundaries.unchanged("factorCount(" + wrong + ")", y -> y.factorCount(wrong), NO_SUCH_WORD);
        }
    }

    // ---- promise 12

    @Holds(in = "Promise 12", says = {"Returns the position at which a factor of a word begins", "Returns the position"})
    static void factorStartOfFirstAndLast() {
        ShuffleAlgebra x = Check.withWords("cbaabaab", "aaaaaaab", "cbaaaaaa");
        int[] starts = {0, 1, 2, 5};
        for (int factor = 0; factor < starts.length; factor++) {
            Check.due("factorStart(0, " + factor + ")", x.factorStart(0, factor), starts[factor]);
        }
        Check.due("factorStart of the only factor", x.factorStart(1, 0), 0);
        for (int factor = 0; factor < 8; factor++) {
            Check.due("factorStart(2, " + factor + ")", x.factorStart(2, factor), factor);
        }
        Boundaries.unchanged("factorStart(2, 7)", y -> y.factorStart(2, 7), 7);
    }

    @Holds(in = "Promise 12", says = {"factor: the number of the factor, from 0", "NONE if there is no such factor"})
    static void factorStartOfNoFactor() {
        String[] words = {"", "ab", "ba", "abababab", "aaaaaaaa"};
        int[] counts = {0, 1, 2, 4, 8};
        for (int i = 0; i < words.length; i++) {
            ShuffleAlgebra x = Check.withWords(words[i]);
            for (int factor : new int[] {-1, counts[i], counts[i] + 1, 8, 9, Integer.MIN_VALUE, Integer.MAX_VALUE}) {
                Check.due("factorStart of " + words[i] + " at " + factor, x.factorStart(0, factor), NONE);
            }
        }
        Boundaries.unchanged("factorStart(0, 1)", x -> x.factorStart(0, 1), NONE);
        Boundaries.unchanged("factorStart(0, -1)", x -> x.factorStart(0, -1), NONE);
    }

    @Holds(in = "Promise 12", says = {"word: the word buffer, 0 to 2", "NO_SUCH_WORD (checked first)"})
    static void factorStartOfNoWord() {
        ShuffleAlgebra x = Check.withWords("ba", "aba", "aaba");
        for (int word = 0; word < 3; word++) {
            Check.due("factorStart(" + word + ", 1)", x.factorStart(word, 1), word + 1);
        }
        for (int wrong : Boundaries.NO_WORDS) {
            Boundaries.unchanged("factorStart(" + wrong + ", 0)", y -> y.factorStart(wrong, 0), NO_SUCH_WORD);
            Boundaries.unchanged("factorStart(" + wrong + ", -1)", y -> y.factorStart(wrong, -1), NO_SUCH_WORD);
            Boundaries.unchanged("factorStart(" + wrong + ", 8)", y -> y.factorStart(wrong, 8), NO_SUCH_WORD);
        }
    }

    // ---- promise 13

    @Holds(in = "Promise 13", says = {"Replaces a word by the first Lyndon word that comes after it in the dictionary order"
            + " and has at most a given length", "Returns the length of the new word"})
    static void nextLyndonFromEmptyToLast() {
        dueNext("", 1, "a");
        dueNext("", 8, "a");
        dueNext("a", 1, "b");
        dueNext("a", 8, "aaaaaaab");
        dueNext("aaaaaaab", 8, "aaaaaaac");
        dueNext("aaaaaaab", 7, "aaaaaab");
        dueNext("aaaaaaac", 8, "aaaaaab");
        dueNext("aaaaaaaa", 8, "aaaaaaab");
        dueNext("aaaaaaaa", 1, "b");
        dueNext("ab", 3, "abb");
        dueNext("ab", 2, "ac");
        dueNext("acccccca", 8, "accccccb");
        dueNext("accccccc", 8, "b");
        dueNext("bccccccc", 8, "c");
        dueNext("bbbbbbbb", 1, "c");
        dueNext("bccccccb", 8, "bccccccc");
    }

    private static void dueNext(String word, int maxLength, String want) {
        ShuffleAlgebra x = Check.withWords("c", word, "ba");
        String name = "nextLyndon of " + word + " up to " + maxLength;
        Check.due(name, x.nextLyndon(1, maxLength), want.length());
        Check.due("the words behind " + name, Check.state(x), "c," + want + ",ba,[][][][][]");
    }

    @Holds(in = "Promise 13", says = {"word: the word buffer, 0 to 2", "NO_SUCH_WORD (checked first)"})
    static void nextLyndonOfNoWord() {
        String[] left = {"b,a,a", "a,b,a", "a,a,b"};
        for (int word = 0; word < 3; word++) {
            ShuffleAlgebra x = Check.withWords("a", "a", "a");
            Check.due("nextLyndon(" + word + ", 1)", x.nextLyndon(word, 1), 1);
            Check.due("the words", Check.state(x), left[word] + ",[][][][][]");
        }
        for (int wrong : Boundaries.NO_WORDS) {
            Boundaries.unchanged("nextLyndon(" + wrong + ", 8)", x -> x.nextLyndon(wrong, 8), NO_SUCH_WORD);
            for (int length : NO_LENGTHS) {
                String name = "nextLyndon(" + wrong + ", " + length + ")";
                Boundaries.unchanged(name, x -> x.nextLyndon(wrong, length), NO_SUCH_WORD);
            }
        }
    }

    @Holds(in = "Promise 13", says = {"maxLength: the maximum length, 1 to 8",
        "BAD_VALUE if maxLength is out of range (checked second)"})
    static void nextLyndonUpToNoLength() {
        String[] wants = {"b", "ab", "aab", "aaab", "aaaab", "aaaaab", "aaaaaab", "aaaaaaab"};
        for (int maxLength = 1; maxLength <= 8; maxLength++) {
            dueNext("a", maxLength, wants[maxLength - 1]);
        }
        for (int wrong : NO_LENGTHS) {
            Boundaries.unchanged("nextLyndon(0, " + wrong + ")", x -> x.nextLyndon(0, wrong), BAD_VALUE);
            Boundaries.unchanged("a wrong length behind the last word", x -> x.nextLyndon(2, wrong), BAD_VALUE);
        }
    }

    @Holds(in = "Promise 13", says = "NONE if there is no such Lyndon word")
    static void nextLyndonBehindTheLast() {
        for (String word : new String[] {"c", "ca", "cc", "cab", "cccccccc", "caaaaaaa"}) {
            for (int maxLength = 1; maxLength <= 8; maxLength++) {
                int length = maxLength;
                String name = "nextLyndon of " + word + " up to " + length;
                Boundaries.unchanged(name, () -> richWithWord(word), x -> x.nextLyndon(0, length), NONE);
            }
        }
    }

    // ---- promise 14

    @Holds(in = "Promise 14", says = {"Returns the number of Lyndon words of a length", "length: the length, 1 to 12",
        "Returns the number"})
    static void lyndonCountFromFirstToLast() {
        ShuffleAlgebra x = new ShuffleAlgebra();
        int[] wants = {3, 3, 8, 18, 48, 116, 312, 810, 2184, 5880, 16104, 44220};
        for (int length = 1; length <= 12; length++) {
            Check.due("lyndonCount(" + length + ")", x.lyndonCount(length), wants[length - 1]);
        }
        Boundaries.unchanged("lyndonCount(12)", y -> y.lyndonCount(12), 44220);
    }

    @Holds(in = "Promise 14", says = "BAD_VALUE if length is out of range")
    static void lyndonCountOutOfRange() {
        for (int wrong : new int[] {0, 13, -1, 256 + 1, 65536 + 1, Integer.MIN_VALUE, Integer.MAX_VALUE}) {
            Boundaries.unchanged("lyndonCount(" + wrong + ")", x -> x.lyndonCount(wrong), BAD_VALUE);
        }
    }

    // ---- promise 15

    @Holds(in = "Promise 15", says = {"Computes the bracket of a Lyndon word", "Returns the number of terms"})
    static void bracketFromOneLetterToEight() {
        dueBracket("a", 1, "a");
        dueBracket("c", 1, "c");
        dueBracket("bc", 2, "bc-cb");
        dueBracket("abbbbbbb", 8, "abbbbbbb-7babbbbbb+21bbabbbbb-35bbbabbbb+35bbbbabbb-21bbbbbabb+7bbbbbbab-bbbbbbba");
        dueBracket("aabab", 8, "aabab-aabba-3abaab+4ababa-abbaa+2baaab-3baaba+babaa");
    }

    private static void dueBracket(String word, int terms, String want) {
        ShuffleAlgebra x = richWithWord(word);
        Check.due("bracket of " + word, x.bracket(0, 3), terms);
        Check.due("the bracket of " + word, Check.written(x, 3), want);
        Check.due("the word", Check.word(x, 0), word);
    }

    @Holds(in = "Promise 15", says = {"word: the word buffer, 0 to 2", "NO_SUCH_WORD (checked first)"})
    static void bracketOfNoWord() {
        String[] words = {"ab", "ac", "bc"};
        String[] wants = {"ab-ba", "ac-ca", "bc-cb"};
        for (int word = 0; word < 3; word++) {
            ShuffleAlgebra x = Check.withWords(words);
            Check.due("bracket(" + word + ", 0)", x.bracket(word, 0), 2);
            Check.due("the bracket", Check.written(x, 0), wants[word]);
        }
        for (int wrong : Boundaries.NO_WORDS) {
            Boundaries.unchanged("bracket(" + wrong + ", 0)", x -> x.bracket(wrong, 0), NO_SUCH_WORD);
            for (int register : Boundaries.NO_REGISTERS) {
                String name = "bracket(" + wrong + ", " + register + ")";
                Boundaries.unchanged(name, x -> x.bracket(wrong, register), NO_SUCH_WORD);
            }
        }
    }

    @Holds(in = "Promise 15", says = {"target: the register that gets the bracket, 0 to 4", "NO_SUCH_REGISTER (checked second)"})
    static void bracketToNoRegister() {
        for (int target = 0; target < 5; target++) {
            ShuffleAlgebra x = Check.withWords("ab");
            Check.due("bracket(0, " + target + ")", x.bracket(0, target), 2);
            for (int register = 0; register < 5; register++) {
                Check.due("the registers", Check.polynomial(x, register), register == target ? "1*ab -1*ba" : "");
            }
        }
        for (int wrong : Boundaries.NO_REGISTERS) {
            Boundaries.unchanged("bracket(0, " + wrong + ")", x -> x.bracket(0, wrong), NO_SUCH_REGISTER);
            Boundaries.unchanged("no register and no Lyndon word", x -> x.bracket(1, wrong), NO_SUCH_REGISTER);
            Boundaries.unchanged("no register and 128 terms", () -> richWithWord(BRACKET_OF_128), x -> x.bracket(0, wrong),
                    NO_SUCH_REGISTER);
        }
    }

    @Holds(in = "Promise 15", says = "NOT_LYNDON (checked third)")
    static void bracketOfOtherWord() {
        for (String word : new String[] {"", "aa", "ba", "aba", "abab", "aaaaaaaa", "baaaaaaa", "abababab"}) {
            for (int target = 0; target < 5; target++) {
                int register = target;
                Boundaries.unchanged("bracket of " + word, () -> richWithWord(word), x -> x.bracket(0, register), NOT_LYNDON);
            }
        }
    }

    @Holds(in = "Promise 15", says = "FULL if the bracket has more than 120 terms")
    static void bracketOf120And128Terms() {
        ShuffleAlgebra x = richWithWord(BRACKET_OF_120);
        Check.due("bracket of " + BRACKET_OF_120, x.bracket(0, 2), 120);
        Check.due("termCount of the bracket", x.termCount(2), 120);
        Check.due("isLie of the bracket", x.isLie(2), 1);
        Check.due("the coefficient of the word", x.coefficient(2, 0), 1);
        for (String word : new String[] {BRACKET_OF_128, "abacabcb", "abacbcac", "abcbacbc"}) {
            for (int target = 0; target < 5; target++) {
                int register = target;
                Boundaries.unchanged("bracket of " + word, () -> richWithWord(word), y -> y.bracket(0, register), FULL);
            }
        }
    }

    // ---- promise 16

    @Holds(in = "Promise 16", says = {"Computes the basis polynomial of a word", "Returns the number of terms"})
    static void basisFromEmptyToFull() {
        dueBasis("", 1, "1");
        dueBasis("c", 1, "c");
        dueBasis("cc", 1, "cc");
        dueBasis("aaaaaaaa", 1, "aaaaaaaa");
        dueBasis("aaaaaaab", 1, "aaaaaaab");
        dueBasis("baaaaaaa", 8, "aaaaaaab+aaaaaaba+aaaaabaa+aaaabaaa+aaabaaaa+aabaaaaa+abaaaaaa+baaaaaaa");
        dueBasis("babaa", 9, "6aaabb+5aabab+4aabba+4abaab+3ababa+2abbaa+3baaab+2baaba+babaa");
    }

    private static void dueBasis(String word, int terms, String want) {
        ShuffleAlgebra x = richWithWord(word);
        Check.due("basis of " + word, x.basis(0, 3), terms);
        Check.due("the basis of " + word, Check.written(x, 3), want);
        Check.due("the word", Check.word(x, 0), word);
    }

    @Holds(in = "Promise 16", says = {"word: the word buffer, 0 to 2", "NO_SUCH_WORD (checked first)"})
    static void basisOfNoWord() {
        String[] words = {"ba", "ca", "cb"};
        String[] wants = {"ab+ba", "ac+ca", "bc+cb"};
        for (int word = 0; word < 3; word++) {
            ShuffleAlgebra x = Check.withWords(words);
            Check.due("basis(" + word + ", 0)", x.basis(word, 0), 2);
            Check.due("the basis", Check.written(x, 0), wants[word]);
        }
        for (int wrong : Boundaries.NO_WORDS) {
            Boundaries.unchanged("basis(" + wrong + ", 0)", x -> x.basis(wrong, 0), NO_SUCH_WORD);
            for (int register : Boundaries.NO_REGISTERS) {
                String name = "basis(" + wrong + ", " + register + ")";
                Boundaries.unchanged(name, x -> x.basis(wrong, register), NO_SUCH_WORD);
            }
        }
    }

    @Holds(in = "Promise 16", says = {"target: the register that gets the basis polynomial, 0 to 4",
        "NO_SUCH_REGISTER (checked second)"})
    static void basisToNoRegister() {
        for (int target = 0; target < 5; target++) {
            ShuffleAlgebra x = Check.withWords("ba");
            Check.due("basis(0, " + target + ")", x.basis(0, target), 2);
            for (int register = 0; register < 5; register++) {
                Check.due("the registers", Check.polynomial(x, register), register == target ? "1*ab 1*ba" : "");
            }
        }
        for (int wrong : Boundaries.NO_REGISTERS) {
            Boundaries.unchanged("basis(0, " + wrong + ")", x -> x.basis(0, wrong), NO_SUCH_REGISTER);
            Boundaries.unchanged("no register and 121 terms", () -> richWithWord(BASIS_OF_121), x -> x.basis(0, wrong),
                    NO_SUCH_REGISTER);
        }
    }

    @Holds(in = "Promise 16", says = "FULL if it has more than 120 terms")
    static void basisOf120And121Terms() {
        for (String word : new String[] {BASIS_OF_120, "baccccaa", "bbbacbac", "bccbbbba"}) {
            ShuffleAlgebra x = richWithWord(word);
            Check.due("basis of " + word, x.basis(0, 2), 120);
            Check.due("termCount of the basis", x.termCount(2), 120);
            Check.due("the coefficient of the word", x.coefficient(2, 0), 1);
        }
        for (String word : new String[] {BASIS_OF_121, "bcbcacca", "ccbbcacb", "ccbbbaaa"}) {
            for (int target = 0; target < 5; target++) {
                int register = target;
                Boundaries.unchanged("basis of " + word, () -> richWithWord(word), x -> x.basis(0, register), FULL);
            }
        }
    }
}
