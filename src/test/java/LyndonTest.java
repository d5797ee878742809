/** Promises 10 to 16: Lyndon words, their brackets and the basis. */
public final class LyndonTest {
    private static final int NO_SUCH_WORD = ShuffleAlgebra.NO_SUCH_WORD;
    private static final int NO_SUCH_REGISTER = ShuffleAlgebra.NO_SUCH_REGISTER;
    private static final int[] NO_WORDS = {-1, 3, Integer.MIN_VALUE, Integer.MAX_VALUE};
    private static final int[] NO_REGISTERS = {-1, 5, Integer.MIN_VALUE, Integer.MAX_VALUE};

    public static void main(String[] args) {
        promise10IsLyndon();
        promise11FactorCount();
        promise12FactorStart();
        promise13NextLyndon();
        promise14LyndonCount();
        promise15Bracket();
        promise16Basis();
        Check.finish();
    }

    private static void promise10IsLyndon() {
        String[] lyndon = {"a", "b", "c", "ab", "aab", "abac", "aabaacab", "abbbbbbb", "bbc"};
        for (String word : lyndon) {
            Check.due("isLyndon of " + word, Check.withWords(word).isLyndon(0), 1);
        }
        String[] others = {"", "aa", "ba", "aba", "abab", "abaab", "aaaaaaaa", "cb", "aabaab"};
        for (String word : others) {
            Check.due("isLyndon of " + word, Check.withWords(word).isLyndon(0), 0);
        }
        for (int wrong : NO_WORDS) {
            Check.due("isLyndon of no word", new ShuffleAlgebra().isLyndon(wrong), NO_SUCH_WORD);
        }
    }

    private static void promise11FactorCount() {
        dueFactors("", new int[0]);
        dueFactors("ab", new int[] {0});
        dueFactors("ba", new int[] {0, 1});
        dueFactors("abab", new int[] {0, 2});
        dueFactors("cbaaaaaa", new int[] {0, 1, 2, 3, 4, 5, 6, 7});
        dueFactors("bcabaab", new int[] {0, 2, 4});
        for (int wrong : NO_WORDS) {
            Check.due("factorCount of no word", new ShuffleAlgebra().factorCount(wrong), NO_SUCH_WORD);
        }
    }

    private static void dueFactors(String word, int[] starts) {
        ShuffleAlgebra x = Check.withWords("", word);
        Check.due("factorCount of " + word, x.factorCount(1), starts.length);
        for (int i = 0; i < starts.length; i++) {
            Check.due("factorStart of " + word, x.factorStart(1, i), starts[i]);
        }
        Check.due("factorStart behind " + word, x.factorStart(1, starts.length), ShuffleAlgebra.NONE);
    }

    private static void promise12FactorStart() {
        ShuffleAlgebra x = Check.withWords("cabaaaaa", "", "");
        int[] starts = {0, 1, 3, 4, 5, 6, 7};
        for (int i = 0; i < starts.length; i++) {
            Check.due("factorStart", x.factorStart(0, i), starts[i]);
        }
        for (int wrong : new int[] {-1, 7, 8, Integer.MIN_VALUE, Integer.MAX_VALUE}) {
            Check.due("factorStart of no factor", x.factorStart(0, wrong), ShuffleAlgebra.NONE);
        }
        Check.due("factorStart of the empty word", x.factorStart(1, 0), ShuffleAlgebra.NONE);
        for (int wrong : NO_WORDS) {
            Check.due("factorStart of no word", x.factorStart(wrong, -1), NO_SUCH_WORD);
        }
    }

    private static void promise13NextLyndon() {
        dueNext("", 1, "a");
        dueNext("", 8, "a");
        dueNext("a", 1, "b");
        dueNext("a", 2, "ab");
        dueNext("a", 3, "aab");
        dueNext("a", 8, "aaaaaaab");
        dueNext("aab", 3, "aac");
        dueNext("aab", 4, "aabb");
        dueNext("abaa", 6, "ababac");
        dueNext("ba", 3, "bbc");
        dueNext("aaaaaaaa", 3, "aab");
        dueNext("abbbbbbb", 2, "ac");
        dueNext("bccccccc", 8, "c");
        dueNext("bcca", 8, "bccbccc");
        ShuffleAlgebra x = Check.withWords("c", "", "cab");
        String before = Check.state(x);
        Check.due("nextLyndon of c", x.nextLyndon(0, 8), ShuffleAlgebra.NONE);
        Check.due("nextLyndon of cab", x.nextLyndon(2, 2), ShuffleAlgebra.NONE);
        for (int wrong : new int[] {0, 9, -1, Integer.MIN_VALUE, Integer.MAX_VALUE}) {
            Check.due("nextLyndon, length out of range", x.nextLyndon(0, wrong), ShuffleAlgebra.BAD_VALUE);
            Check.due("nextLyndon, word before length", x.nextLyndon(3, wrong), NO_SUCH_WORD);
        }
        for (int wrong : NO_WORDS) {
            Check.due("nextLyndon of no word", x.nextLyndon(wrong, 8), NO_SUCH_WORD);
        }
        Check.due("state after errors", Check.state(x), before);
    }

    private static void dueNext(String word, int maxLength, String want) {
        ShuffleAlgebra x = Check.withWords(word, word);
        Check.due("nextLyndon of " + word + " up to " + maxLength, x.nextLyndon(0, maxLength), want.length());
        Check.due("nextLyndon of " + word + " up to " + maxLength, Check.word(x, 0), want);
        Check.due("another word", Check.word(x, 1), word);
    }

    private static void promise14LyndonCount() {
        int[] counts = {3, 3, 8, 18, 48, 116, 312, 810, 2184, 5880, 16104, 44220};
        ShuffleAlgebra x = new ShuffleAlgebra();
        for (int i = 0; i < counts.length; i++) {
            Check.due("lyndonCount of " + (i + 1), x.lyndonCount(i + 1), counts[i]);
        }
        for (int wrong : new int[] {0, 13, -1, Integer.MIN_VALUE, Integer.MAX_VALUE}) {
            Check.due("lyndonCount of " + wrong, x.lyndonCount(wrong), ShuffleAlgebra.BAD_VALUE);
        }
    }

    private static void promise15Bracket() {
        dueBracket("b", 1, "b");
        dueBracket("ab", 2, "ab-ba");
        dueBracket("aab", 3, "aab-2aba+baa");
        dueBracket("abb", 3, "abb-2bab+bba");
        dueBracket("abc", 4, "abc-acb-bca+cba");
        dueBracket("acb", 4, "acb-bac+bca-cab");
        dueBracket("aaaaaaab", 8, "aaaaaaab-7aaaaaaba+21aaaaabaa-35aaaabaaa+35aaabaaaa-21aabaaaaa+7abaaaaaa-baaaaaaa");
        ShuffleAlgebra x = Check.busy();
        String before = Check.state(x);
        Check.due("bracket of ba", x.bracket(1, 0), ShuffleAlgebra.NOT_LYNDON);
        for (int wrong : NO_REGISTERS) {
            Check.due("bracket, register before Lyndon", x.bracket(1, wrong), NO_SUCH_REGISTER);
            Check.due("bracket to no register", x.bracket(0, wrong), NO_SUCH_REGISTER);
        }
        for (int wrong : NO_WORDS) {
            Check.due("bracket, word before register", x.bracket(wrong, 5), NO_SUCH_WORD);
        }
        Check.due("state after errors", Check.state(x), before);
        x.clearWord(1);
        Check.due("bracket of the empty word", x.bracket(1, 0), ShuffleAlgebra.NOT_LYNDON);
    }

    private static void dueBracket(String word, int count, String want) {
        ShuffleAlgebra x = Check.busy();
        Check.setWord(x, 2, word);
        Check.due("bracket of " + word, x.bracket(2, 4), count);
        Check.due("bracket of " + word, Check.written(x, 4), want);
        Check.due("the word", Check.word(x, 2), word);
        Check.due("isLie of the bracket of " + word, x.isLie(4), 1);
    }

    private static void promise16Basis() {
        dueBasis("", 1, "1");
        dueBasis("aab", 1, "aab");
        dueBasis("ba", 2, "ab+ba");
        dueBasis("baa", 3, "aab+aba+baa");
        dueBasis("abab", 2, "2aabb+abab");
        dueBasis("aaaaaaaa", 1, "aaaaaaaa");
        dueBasis("cba", 6, "abc+acb+bac+bca+cab+cba");
        dueBasis("bab", 2, "2abb+bab");
        ShuffleAlgebra x = Check.busy();
        Check.setWord(x, 0, "ccbbbaaa");
        String before = Check.state(x);
        Check.due("basis with 560 terms", x.basis(0, 0), ShuffleAlgebra.FULL);
        for (int wrong : NO_REGISTERS) {
            Check.due("basis, register before room", x.basis(0, wrong), NO_SUCH_REGISTER);
        }
        for (int wrong : NO_WORDS) {
            Check.due("basis, word before register", x.basis(wrong, -1), NO_SUCH_WORD);
            Check.due("basis of no word", x.basis(wrong, 0), NO_SUCH_WORD);
        }
        Check.due("state after errors", Check.state(x), before);
        Check.setWord(x, 0, "cbbbbba");
        Check.due("basis after FULL", x.basis(0, 0), 42);
    }

    private static void dueBasis(String word, int count, String want) {
        ShuffleAlgebra x = Check.busy();
        Check.setWord(x, 2, word);
        Check.due("basis of " + word, x.basis(2, 4), count);
        Check.due("basis of " + word, Check.written(x, 4), want);
        Check.due("the word", Check.word(x, 2), word);
    }
}
