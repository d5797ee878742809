/** Promises 1 to 9: a new object and the words. */
public final class WordTest {
    private static final int NO_SUCH_WORD = ShuffleAlgebra.NO_SUCH_WORD;
    private static final int NO_SUCH_LETTER = ShuffleAlgebra.NO_SUCH_LETTER;
    private static final int[] WRONG = {-1, 3, Integer.MIN_VALUE, Integer.MAX_VALUE};

    public static void main(String[] args) {
        promise1NewObject();
        promise2AppendLetter();
        promise3ClearWord();
        promise4WordLength();
        promise5WordLetter();
        promise6ReverseWord();
        promise7SubwordCount();
        promise8SplitCount();
        promise9CoverCount();
        Check.finish();
    }

    private static void promise1NewObject() {
        ShuffleAlgebra x = new ShuffleAlgebra();
        for (int i = 0; i < 3; i++) {
            Check.due("wordLength of a new object", x.wordLength(i), 0);
        }
        for (int i = 0; i < 5; i++) {
            Check.due("termCount of a new object", x.termCount(i), 0);
        }
        Check.due("outputCharacter of a new object", x.outputCharacter(0), ShuffleAlgebra.NONE);
        Check.due("restoreSnapshot of a new object", x.restoreSnapshot(), ShuffleAlgebra.NONE);
        Check.dueInputLength("new object", x, 0);
        Check.busy();
        Check.due("an object beside another one", Check.state(new ShuffleAlgebra()), ",,,[][][][][]");
    }

    private static void promise2AppendLetter() {
        ShuffleAlgebra x = new ShuffleAlgebra();
        for (int i = 0; i < 8; i++) {
            Check.due("appendLetter", x.appendLetter(1, i % 3), i + 1);
        }
        Check.due("the word", Check.word(x, 1), "abcabcab");
        Check.due("another word", Check.word(x, 0), "");
        String before = Check.state(x);
        for (int wrong : WRONG) {
            Check.due("appendLetter to no word", x.appendLetter(wrong, 0), NO_SUCH_WORD);
            Check.due("appendLetter, word before letter", x.appendLetter(wrong, wrong), NO_SUCH_WORD);
            Check.due("appendLetter without a letter", x.appendLetter(0, wrong), NO_SUCH_LETTER);
            Check.due("appendLetter, letter before room", x.appendLetter(1, wrong), NO_SUCH_LETTER);
        }
        Check.due("appendLetter to 8 letters", x.appendLetter(1, 0), ShuffleAlgebra.FULL);
        Check.due("state after errors", Check.state(x), before);
    }

    private static void promise3ClearWord() {
        ShuffleAlgebra x = Check.withWords("abc", "bb", "a");
        Check.due("clearWord", x.clearWord(0), 3);
        Check.due("clearWord again", x.clearWord(0), 0);
        String before = Check.state(x);
        for (int wrong : WRONG) {
            Check.due("clearWord of no word", x.clearWord(wrong), NO_SUCH_WORD);
        }
        Check.due("the words", Check.state(x), before);
        Check.due("the words", before, ",bb,a,[][][][][]");
    }

    private static void promise4WordLength() {
        ShuffleAlgebra x = Check.withWords("", "cab", "cccccccc");
        Check.due("wordLength", x.wordLength(0), 0);
        Check.due("wordLength", x.wordLength(1), 3);
        Check.due("wordLength", x.wordLength(2), 8);
        for (int wrong : WRONG) {
            Check.due("wordLength of no word", x.wordLength(wrong), NO_SUCH_WORD);
        }
    }

    private static void promise5WordLetter() {
        ShuffleAlgebra x = Check.withWords("", "cab", "cccccccb");
        Check.due("wordLetter", x.wordLetter(1, 0), 2);
        Check.due("wordLetter", x.wordLetter(1, 1), 0);
        Check.due("wordLetter", x.wordLetter(1, 2), 1);
        Check.due("wordLetter", x.wordLetter(2, 7), 1);
        Check.due("wordLetter behind the end", x.wordLetter(1, 3), ShuffleAlgebra.NONE);
        Check.due("wordLetter behind 8 letters", x.wordLetter(2, 8), ShuffleAlgebra.NONE);
        Check.due("wordLetter of the empty word", x.wordLetter(0, 0), ShuffleAlgebra.NONE);
        Check.due("wordLetter before the start", x.wordLetter(1, -1), ShuffleAlgebra.NONE);
        Check.due("wordLetter far before", x.wordLetter(1, Integer.MIN_VALUE), ShuffleAlgebra.NONE);
        Check.due("wordLetter far behind", x.wordLetter(1, Integer.MAX_VALUE), ShuffleAlgebra.NONE);
        for (int wrong : WRONG) {
            Check.due("wordLetter, word before position", x.wordLetter(wrong, -1), NO_SUCH_WORD);
        }
    }

    private static void promise6ReverseWord() {
        ShuffleAlgebra x = Check.withWords("aabc", "ba", "c");
        Check.due("reverseWord", x.reverseWord(0, 1), 4);
        Check.due("source and target", Check.state(x), "aabc,cbaa,c,[][][][][]");
        Check.due("reverseWord of itself", x.reverseWord(0, 0), 4);
        Check.due("the same one", Check.word(x, 0), "cbaa");
        x.clearWord(2);
        Check.due("reverseWord of the empty word", x.reverseWord(2, 1), 0);
        Check.due("the target", Check.word(x, 1), "");
        Check.setWord(x, 1, "abbbbbbc");
        Check.due("reverseWord of 8 letters", x.reverseWord(1, 2), 8);
        Check.due("the target", Check.word(x, 2), "cbbbbbba");
        String before = Check.state(x);
        for (int wrong : WRONG) {
            Check.due("reverseWord of no word", x.reverseWord(wrong, 0), NO_SUCH_WORD);
            Check.due("reverseWord to no word", x.reverseWord(0, wrong), NO_SUCH_WORD);
        }
        Check.due("state after errors", Check.state(x), before);
    }

    private static void promise7SubwordCount() {
        dueSubwords("ab", "aabb", 4);
        dueSubwords("ba", "aabb", 0);
        dueSubwords("", "abc", 1);
        dueSubwords("", "", 1);
        dueSubwords("abc", "abc", 1);
        dueSubwords("abca", "abc", 0);
        dueSubwords("a", "", 0);
        dueSubwords("aaaa", "aaaaaaaa", 70);
        dueSubwords("abab", "abababab", 15);
        ShuffleAlgebra x = Check.withWords("aab", "b", "");
        Check.due("subwordCount of itself", x.subwordCount(0, 0), 1);
        for (int wrong : WRONG) {
            Check.due("subwordCount of no word", x.subwordCount(wrong, 0), NO_SUCH_WORD);
            Check.due("subwordCount in no word", x.subwordCount(0, wrong), NO_SUCH_WORD);
        }
    }

    private static void dueSubwords(String u, String w, int want) {
        Check.due("subwordCount " + u + " in " + w, Check.withWords(u, w).subwordCount(0, 1), want);
    }

    private static void promise8SplitCount() {
        dueSplits("a", "a", "aa", 2);
        dueSplits("a", "a", "a", 0);
        dueSplits("ab", "c", "acb", 1);
        dueSplits("ab", "c", "bac", 0);
        dueSplits("", "abc", "abc", 1);
        dueSplits("abc", "", "abc", 1);
        dueSplits("", "", "", 1);
        dueSplits("", "", "a", 0);
        dueSplits("a", "", "", 0);
        dueSplits("aaaa", "aaaa", "aaaaaaaa", 70);
        dueSplits("ab", "ab", "aabb", 4);
        dueSplits("ab", "ab", "abab", 2);
        dueSplits("aaaa", "aaaaa", "aaaaaaaa", 0);
        ShuffleAlgebra x = Check.withWords("a", "aa", "");
        Check.due("splitCount of one word twice", x.splitCount(0, 0, 1), 2);
        for (int wrong : WRONG) {
            Check.due("splitCount without u", x.splitCount(wrong, 0, 0), NO_SUCH_WORD);
            Check.due("splitCount without v", x.splitCount(0, wrong, 0), NO_SUCH_WORD);
            Check.due("splitCount without w", x.splitCount(0, 0, wrong), NO_SUCH_WORD);
        }
    }

    private static void dueSplits(String u, String v, String w, int want) {
        String call = "splitCount " + u + ", " + v + " in " + w;
        Check.due(call, Check.withWords(u, v, w).splitCount(0, 1, 2), want);
    }

    private static void promise9CoverCount() {
        dueCovers("a", "a", "a", 1);
        dueCovers("a", "a", "aa", 2);
        dueCovers("a", "b", "a", 0);
        dueCovers("ab", "ab", "ab", 1);
        dueCovers("ab", "ab", "abb", 2);
        dueCovers("ab", "bc", "abc", 1);
        dueCovers("", "", "", 1);
        dueCovers("", "ab", "ab", 1);
        dueCovers("", "ab", "aab", 0);
        dueCovers("aaaa", "aaaa", "aaaaaaa", 140);
        dueCovers("aaaaaa", "aaaaaa", "aaaaaaaa", 420);
        dueCovers("aaaaaaaa", "aaaaaaaa", "aaaaaaaa", 1);
        ShuffleAlgebra x = Check.withWords("a", "aa", "");
        Check.due("coverCount of one word", x.coverCount(1, 1, 1), 1);
        for (int wrong : WRONG) {
            Check.due("coverCount without u", x.coverCount(wrong, 0, 0), NO_SUCH_WORD);
            Check.due("coverCount without v", x.coverCount(0, wrong, 0), NO_SUCH_WORD);
            Check.due("coverCount without w", x.coverCount(0, 0, wrong), NO_SUCH_WORD);
        }
    }

    private static void dueCovers(String u, String v, String w, int want) {
        String call = "coverCount " + u + ", " + v + " in " + w;
        Check.due(call, Check.withWords(u, v, w).coverCount(0, 1, 2), want);
    }
}
