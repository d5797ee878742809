/** Promises 1 to 9: the boundary cases that the document names, sentence by sentence. */
public final class BoundaryWordsTest {
    private static final int NO_SUCH_WORD = ShuffleAlgebra.NO_SUCH_WORD;
    private static final int NO_SUCH_LETTER = ShuffleAlgebra.NO_SUCH_LETTER;
    private static final int FULL = ShuffleAlgebra.FULL;
    private static final int NONE = ShuffleAlgebra.NONE;
    private static final String EIGHT = "abcabcab";

    public static void main(String[] args) throws ReflectiveOperationException {
        Boundaries.run(BoundaryWordsTest.class);
    }

    // ---- promise 1

    @Holds(in = "Promise 1", says = "Creates a calculator with empty word buffers, registers that are 0, an empty input"
            + " and an empty output")
    static void newObjectIsEmpty() {
        ShuffleAlgebra x = new ShuffleAlgebra();
        for (int word = 0; word < 3; word++) {
            Check.due("wordLength(" + word + ")", x.wordLength(word), 0);
            Check.due("wordLetter(" + word + ", 0)", x.wordLetter(word, 0), NONE);
        }
        for (int register = 0; register < 5; register++) {
            Check.due("termCount(" + register + ")", x.termCount(register), 0);
            Check.due("termLength(" + register + ", 0)", x.termLength(register, 0), NONE);
            Check.due("coefficient(" + register + ", 0)", x.coefficient(register, 0), 0);
        }
        Check.due("outputCharacter(0)", x.outputCharacter(0), NONE);
        Check.due("parsePolynomial(0) of the empty input", x.parsePolynomial(0), ShuffleAlgebra.SYNTAX_ERROR);
        Check.due("the first character", x.appendCharacter('a'), 1);
    }

    // ---- promise 2

    @Holds(in = "Promise 2", says = {"Appends a letter to a word", "Returns the new length"})
    static void appendLetterFromEmptyToFull() {
        ShuffleAlgebra x = new ShuffleAlgebra();
        for (int length = 1; length <= 8; length++) {
            Check.due("appendLetter", x.appendLetter(1, (length - 1) % 3), length);
            Check.due("the word", Check.word(x, 1), EIGHT.substring(0, length));
        }
        Check.due("the others", Check.state(x), "," + EIGHT + ",,[][][][][]");
    }

    @Holds(in = "Promise 2", says = {"word: the word buffer, 0 to 2", "NO_SUCH_WORD (checked first)"})
    static void appendLetterToNoWord() {
        for (int word = 0; word < 3; word++) {
            ShuffleAlgebra x = new ShuffleAlgebra();
            Check.due("appendLetter(" + word + ", 1)", x.appendLetter(word, 1), 1);
            Check.due("the word", Check.word(x, word), "b");
        }
        for (int wrong : Boundaries.NO_WORDS) {
            Boundaries.unchanged("appendLetter(" + wrong + ", 0)", x -> x.appendLetter(wrong, 0), NO_SUCH_WORD);
            Boundaries.unchanged("appendLetter(" + wrong + ", -1)", x -> x.appendLetter(wrong, -1), NO_SUCH_WORD);
            Boundaries.unchanged("appendLetter(" + wrong + ", 3)", x -> x.appendLetter(wrong, 3), NO_SUCH_WORD);
        }
    }

    @Holds(in = "Promise 2", says = {"letter: the letter, 0 to 2", "NO_SUCH_LETTER (checked second)"})
    static void appendLetterOfNoLetter() {
        for (int letter = 0; letter < 3; letter++) {
            ShuffleAlgebra x = new ShuffleAlgebra();
            Check.due("appendLetter(0, " + letter + ")", x.appendLetter(0, letter), 1);
            Check.due("the letter", x.wordLetter(0, 0), letter);
        }
        for (int wrong : Boundaries.NO_LETTERS) {
            Boundaries.unchanged("appendLetter(0, " + wrong + ")", x -> x.appendLetter(0, wrong), NO_SUCH_LETTER);
            Boundaries.unchanged("a wrong letter to a full word", x -> x.appendLetter(2, wrong), NO_SUCH_LETTER);
        }
    }

    @Holds(in = "Promise 2", says = "FULL if the word has 8 letters")
    static void appendLetterToFullWord() {
        ShuffleAlgebra x = Check.withWords("", "", "abcabca");
        Check.due("the eighth letter", x.appendLetter(2, 1), 8);
        for (int letter = 0; letter < 3; letter++) {
            Check.due("a ninth letter", x.appendLetter(2, letter), FULL);
            Check.due("the word", Check.word(x, 2), EIGHT);
            int same = letter;
            Boundaries.unchanged("appendLetter(2, " + letter + ")", y -> y.appendLetter(2, same), FULL);
        }
    }

    // ---- promise 3

    @Holds(in = "Promise 3", says = {"Makes a word empty", "Returns the length that it had"})
    static void clearWordOfEachLength() {
        for (int length = 0; length <= 8; length++) {
            ShuffleAlgebra x = Check.withWords("a", EIGHT.substring(0, length), "bc");
            Check.due("clearWord", x.clearWord(1), length);
            Check.due("the words", Check.state(x), "a,,bc,[][][][][]");
            Check.due("clearWord of the empty word", x.clearWord(1), 0);
            Check.due("a letter in the place of eight", x.appendLetter(1, 2), 1);
        }
    }

    @Holds(in = "Promise 3", says = {"word: the word buffer, 0 to 2", "NO_SUCH_WORD"})
    static void clearWordOfNoWord() {
        String[] left = {",b,c", "a,,c", "a,b,"};
        for (int word = 0; word < 3; word++) {
            ShuffleAlgebra x = Check.withWords("a", "b", "c");
            Check.due("clearWord(" + word + ")", x.clearWord(word), 1);
            Check.due("the words", Check.state(x), left[word] + ",[][][][][]");
        }
        for (int wrong : Boundaries.NO_WORDS) {
            Boundaries.unchanged("clearWord(" + wrong + ")", x -> x.clearWord(wrong), NO_SUCH_WORD);
        }
    }

    // ---- promise 4

    @Holds(in = "Promise 4", says = {"Returns the length of a word", "Returns 0 to 8"})
    static void wordLengthFromEmptyToFull() {
        for (int length = 0; length <= 8; length++) {
            ShuffleAlgebra x = Check.withWords("a", "", "cccccccc".substring(0, length));
            Check.due("wordLength of " + length + " letters", x.wordLength(2), length);
        }
        Boundaries.unchanged("wordLength(2)", x -> x.wordLength(2), 8);
    }

    @Holds(in = "Promise 4", says = {"word: the word buffer, 0 to 2", "NO_SUCH_WORD"})
    static void wordLengthOfNoWord() {
        ShuffleAlgebra x = Check.withWords("a", "bb", "ccc");
        for (int word = 0; word < 3; word++) {
            Check.due("wordLength(" + word + ")", x.wordLength(word), word + 1);
        }
        for (int wrong : Boundaries.NO_WORDS) {
            Boundaries.unchanged("wordLength(" + wrong + ")", y -> y.wordLength(wrong), NO_SUCH_WORD);
        }
    }

    // ---- promise 5

    @Holds(in = "Promise 5", says = {"Returns a letter of a word", "Returns the letter, 0 to 2"})
    static void wordLetterOfEachKind() {
        for (int length = 1; length <= 8; length++) {
            ShuffleAlgebra x = Check.withWords("", EIGHT.substring(0, length));
            for (int index = 0; index < length; index++) {
                Check.due("wordLetter(1, " + index + ")", x.wordLetter(1, index), index % 3);
            }
        }
        Boundaries.unchanged("wordLetter(2, 7)", x -> x.wordLetter(2, 7), 2);
    }

    @Holds(in = "Promise 5", says = {"index: the position, from 0", "NONE if there is no such position"})
    static void wordLetterAtNoPosition() {
        for (int length = 0; length <= 8; length++) {
            ShuffleAlgebra x = Check.withWords("", "", "bbbbbbbb".substring(0, length));
            for (int index : new int[] {-1, length, length + 1, 8, 9, Integer.MIN_VALUE, Integer.MAX_VALUE}) {
                Check.due("wordLetter(2, " + index + ")", x.wordLetter(2, index), NONE);
            }
            if (length > 0) {
                Check.due("the first position", x.wordLetter(2, 0), 1);
                Check.due("the last position", x.wordLetter(2, length - 1), 1);
            }
        }
        Boundaries.unchanged("wordLetter(0, -1)", x -> x.wordLetter(0, -1), NONE);
        Boundaries.unchanged("wordLetter(0, 3)", x -> x.wordLetter(0, 3), NONE);
        Boundaries.unchanged("wordLetter(2, 8)", x -> x.wordLetter(2, 8), NONE);
    }

    @Holds(in = "Promise 5", says = {"word: the word buffer, 0 to 2", "NO_SUCH_WORD (checked first)"})
    static void wordLetterOfNoWord() {
        ShuffleAlgebra x = Check.withWords("a", "b", "c");
        for (int word = 0; word < 3; word++) {
            Check.due("wordLetter(" + word + ", 0)", x.wordLetter(word, 0), word);
        }
        for (int wrong : Boundaries.NO_WORDS) {
            Boundaries.unchanged("wordLetter(" + wrong + ", 0)", y -> y.wordLetter(wrong, 0), NO_SUCH_WORD);
            Boundaries.unchanged("wordLetter(" + wrong + ", -1)", y -> y.wordLetter(wrong, -1), NO_SUCH_WORD);
            Boundaries.unchanged("wordLetter(" + wrong + ", 8)", y -> y.wordLetter(wrong, 8), NO_SUCH_WORD);
        }
    }

    // ---- promise 6

    @Holds(in = "Promise 6", says = {"Replaces a word by another one, read backwards", "Returns the length of the word"})
    static void reverseWordOfEachLength() {
        for (int length = 0; length <= 8; length++) {
            String word = "aabcabbc".substring(0, length);
            String backwards = new StringBuilder(word).reverse().toString();
            ShuffleAlgebra x = Check.withWords(word, "ab", EIGHT);
            Check.due("reverseWord to a longer or shorter word", x.reverseWord(0, 1), length);
            Check.due("reverseWord to a full word", x.reverseWord(0, 2), length);
            Check.due("the words", Check.state(x), word + "," + backwards + "," + backwards + ",[][][][][]");
        }
    }

    @Holds(in = "Promise 6", says = {"word: the word buffer with the source, 0 to 2",
        "target: the word buffer that is replaced, 0 to 2", "it may be the same one"})
    static void reverseWordFromAndToEach() {
        String[] words = {"aab", "bbcc", EIGHT};
        for (int word = 0; word < 3; word++) {
            for (int target = 0; target < 3; target++) {
                ShuffleAlgebra x = Check.withWords(words);
                String[] want = words.clone();
                want[target] = new StringBuilder(words[word]).reverse().toString();
                String call = "reverseWord(" + word + ", " + target + ")";
                Check.due(call, x.reverseWord(word, target), words[word].length());
                Check.due("the words behind " + call, Check.state(x), String.join(",", want) + ",[][][][][]");
            }
        }
    }

    @Holds(in = "Promise 6", says = "NO_SUCH_WORD if a word buffer does not exist")
    static void reverseWordOfNoWord() {
        for (int wrong : Boundaries.NO_WORDS) {
            Boundaries.unchanged("reverseWord(" + wrong + ", 1)", x -> x.reverseWord(wrong, 1), NO_SUCH_WORD);
            Boundaries.unchanged("reverseWord(0, " + wrong + ")", x -> x.reverseWord(0, wrong), NO_SUCH_WORD);
            Boundaries.unchanged("reverseWord of no words", x -> x.reverseWord(wrong, wrong), NO_SUCH_WORD);
        }
    }

    // ---- promise 7

    @Holds(in = "Promise 7", says = {"Returns the number of occurrences of a word as a subword of another one",
        "Returns the number of occurrences"})
    static void subwordCountFromNoneToMost() {
        dueSubwords("a", "", 0);
        dueSubwords("a", "bcbcbcbc", 0);
        dueSubwords("ba", "aaaabbbb", 0);
        dueSubwords("aaaa", "aaaaaaaa", 70);
        dueSubwords("aaaaaaaa", "aaaaaaaa", 1);
        dueSubwords("aaaaaaaa", "aaaaaaa", 0);
        dueSubwords("c", "cccccccc", 8);
        Boundaries.unchanged("subwordCount(1, 0)", x -> x.subwordCount(1, 0), 0);
    }

    @Holds(in = "Promise 7", says = "The empty word occurs once")
    static void subwordCountOfTheEmptyWord() {
        dueSubwords("", "", 1);
        dueSubwords("", "a", 1);
        dueSubwords("", EIGHT, 1);
    }

    private static void dueSubwords(String u, String w, int want) {
        Check.due("subwordCount of " + u + " in " + w, Check.withWords(w, "", u).subwordCount(2, 0), want);
    }

    @Holds(in = "Promise 7", says = {"u: the word buffer with the subword, 0 to 2", "w: the word buffer with the word, 0 to 2",
        "NO_SUCH_WORD if a word buffer does not exist"})
    static void subwordCountOfNoWord() {
        ShuffleAlgebra x = Check.withWords("a", "aa", "aaa");
        int[][] wants = {{1, 2, 3}, {0, 1, 3}, {0, 0, 1}};
        for (int u = 0; u < 3; u++) {
            for (int w = 0; w < 3; w++) {
                Check.due("subwordCount(" + u + ", " + w + ")", x.subwordCount(u, w), wants[u][w]);
            }
        }
        for (int wrong : Boundaries.NO_WORDS) {
            Boundaries.unchanged("subwordCount(" + wrong + ", 0)", y -> y.subwordCount(wrong, 0), NO_SUCH_WORD);
            Boundaries.unchanged("subwordCount(0, " + wrong + ")", y -> y.subwordCount(0, wrong), NO_SUCH_WORD);
            Boundaries.unchanged("subwordCount of no words", y -> y.subwordCount(wrong, wrong), NO_SUCH_WORD);
        }
    }

    // ---- promise 8

    @Holds(in = "Promise 8", says = {"Returns the coefficient of a word in the shuffle of two words: the number of sets of"
            + " positions of w that give the subword u, while the other positions give the subword v",
        "Returns the number of sets"})
    static void splitCountFromNoneToMost() {
        dueSplits("", "", "", 1);
        dueSplits("", "", "a", 0);
        dueSplits("a", "", "", 0);
        dueSplits("", "b", "", 0);
        dueSplits("", EIGHT, EIGHT, 1);
        dueSplits(EIGHT, "", EIGHT, 1);
        dueSplits(EIGHT, "a", EIGHT, 0);
        dueSplits(EIGHT, EIGHT, EIGHT, 0);
        dueSplits("a", "a", "a", 0);
        dueSplits("a", "a", "aa", 2);
        dueSplits("a", "a", "aaa", 0);
        dueSplits("aaaa", "aaaa", "aaaaaaaa", 70);
        dueSplits("aaaa", "aaaa", "aaaaaaa", 0);
        dueSplits("aaaa", "aaaaa", "aaaaaaaa", 0);
        Boundaries.unchanged("splitCount(0, 1, 2)", x -> x.splitCount(0, 1, 2), 0);
    }

    private static void dueSplits(String u, String v, String w, int want) {
        String name = "splitCount of " + u + " and " + v + " in " + w;
        Check.due(name, Check.withWords(u, v, w).splitCount(0, 1, 2), want);
    }

    @Holds(in = "Promise 8", says = {"u: the word buffer with u, 0 to 2", "v: the word buffer with v, 0 to 2",
        "w: the word buffer with w, 0 to 2", "NO_SUCH_WORD if a word buffer does not exist"})
    static void splitCountOfNoWord() {
        ShuffleAlgebra x = Check.withWords("a", "aa", "aaa");
        for (int u = 0; u < 3; u++) {
            for (int v = 0; v < 3; v++) {
                for (int w = 0; w < 3; w++) {
                    int want = u + v + 2 == w + 1 ? w + 1 > 2 ? 3 : 2 : 0;
                    Check.due("splitCount(" + u + ", " + v + ", " + w + ")", x.splitCount(u, v, w), want);
                }
            }
        }
        for (int wrong : Boundaries.NO_WORDS) {
            Boundaries.unchanged("splitCount without u", y -> y.splitCount(wrong, 0, 0), NO_SUCH_WORD);
            Boundaries.unchanged("splitCount without v", y -> y.splitCount(0, wrong, 0), NO_SUCH_WORD);
            Boundaries.unchanged("splitCount without w", y -> y.splitCount(0, 0, wrong), NO_SUCH_WORD);
            Boundaries.unchanged("splitCount of no words", y -> y.splitCount(wrong, wrong, wrong), NO_SUCH_WORD);
        }
    }

    // ---- promise 9

    @Holds(in = "Promise 9", says = {"Returns the coefficient of a word in the infiltration of two words",
        "Returns the coefficient"})
    static void coverCountFromNoneToMost() {
        dueCovers("", "", "", 1);
        dueCovers("", "", "a", 0);
        dueCovers("a", "", "", 0);
        dueCovers("", "b", "", 0);
        dueCovers("", EIGHT, EIGHT, 1);
        dueCovers(EIGHT, "", EIGHT, 1);
        dueCovers(EIGHT, EIGHT, EIGHT, 1);
        dueCovers(EIGHT, "a", EIGHT, 3);
        dueCovers("a", "a", "a", 1);
        dueCovers("a", "a", "aa", 2);
        dueCovers("a", "a", "aaa", 0);
        dueCovers("a", "b", "a", 0);
        dueCovers("aaaaa", "aaaaa", "aaaaaaaa", 560);
        dueCovers("aaaa", "aaaa", "aaaaaaaa", 70);
        dueCovers("aaaa", "aaa", "aaaaaaaa", 0);
        dueCovers("aaaaaaaa", "aaaaaaaa", "aaaaaaa", 0);
        Boundaries.unchanged("coverCount(2, 2, 2)", x -> x.coverCount(2, 2, 2), 1);
    }

    private static void dueCovers(String u, String v, String w, int want) {
        String name = "coverCount of " + u + " and " + v + " in " + w;
        Check.due(name, Check.withWords(u, v, w).coverCount(0, 1, 2), want);
    }

    @Holds(in = "Promise 9", says = {"u: the word buffer with u, 0 to 2", "v: the word buffer with v, 0 to 2",
        "w: the word buffer with w, 0 to 2", "NO_SUCH_WORD if a word buffer does not exist"})
    static void coverCountOfNoWord() {
        ShuffleAlgebra x = Check.withWords("a", "aa", "aaa");
        int[][] wants = {{1, 2, 0}, {0, 2, 3}, {0, 0, 3}, {0, 1, 6}, {0, 0, 3}, {0, 0, 1}};
        int[][] pairs = {{0, 0}, {0, 1}, {0, 2}, {1, 1}, {1, 2}, {2, 2}};
        for (int i = 0; i < pairs.length; i++) {
            for (int w = 0; w < 3; w++) {
                int u = pairs[i][0];
                int v = pairs[i][1];
                Check.due("coverCount(" + u + ", " + v + ", " + w + ")", x.coverCount(u, v, w), wants[i][w]);
                Check.due("coverCount(" + v + ", " + u + ", " + w + ")", x.coverCount(v, u, w), wants[i][w]);
            }
        }
        for (int wrong : Boundaries.NO_WORDS) {
            Boundaries.unchanged("coverCount without u", y -> y.coverCount(wrong, 0, 0), NO_SUCH_WORD);
            Boundaries.unchanged("coverCount without v", y -> y.coverCount(0, wrong, 0), NO_SUCH_WORD);
            Boundaries.unchanged("coverCount without w", y -> y.coverCount(0, 0, wrong), NO_SUCH_WORD);
            Boundaries.unchanged("coverCount of no words", y -> y.coverCount(wrong, wrong, wrong), NO_SUCH_WORD);
        }
    }
}
