/**
 * A calculator for the shuffle algebra of words over the letters a, b and c.
 *
 * <p>Inside, a word is one number, its code (see {@link Words}). Every result is first added up in one row that has a
 * place for each possible word (see {@link Sum}) and moved to its register only when it is known to fit; this is why a
 * target may be one of the sources, and why an error leaves the registers as they were.
 */
public final class ShuffleAlgebra {
    public static final int NO_SUCH_REGISTER = -1;
    public static final int NO_SUCH_WORD = -2;
    public static final int NO_SUCH_LETTER = -3;
    public static final int BAD_VALUE = -4;
    public static final int FULL = -5;
    public static final int TOO_LONG = -6;
    public static final int OVERFLOW = -7;
    public static final int NONE = -8;
    public static final int NOT_LYNDON = -9;
    public static final int NO_SUCH_NAME = -10;
    public static final int SYNTAX_ERROR = -100;
    public static final long NO_VALUE = Long.MIN_VALUE;
    public static final int CONCATENATION = 0;
    public static final int SHUFFLE = 1;
    public static final int INFILTRATION = 2;

    private static final int WORD_BUFFERS = 3;
    private static final int REGISTERS = 5;
    private static final int MAX_TERMS = 120;
    private static final int MAX_COEFFICIENT = 1000000;
    private static final int MAX_FACTOR = 1000;
    private static final int MAX_INPUT = 60;
    private static final int FIRST_CHARACTER = 32;
    private static final int LAST_CHARACTER = 126;
    private static final int BEGIN_SIDE = 0;
    private static final int END_SIDE = 1;

    private static final String REVERSE = "reverse";
    private static final String NEGATE = "negate";
    private static final String EVEN = "even";
    private static final String ODD = "odd";
    private static final String LYNDON = "lyndon";

    private final int[] words = new int[WORD_BUFFERS];
    private final int[] savedWords = new int[WORD_BUFFERS];
    private final Polynomial[] registers = new Polynomial[REGISTERS];
    private final Polynomial[] savedRegisters = new Polynomial[REGISTERS];
    private boolean saved;
    private final StringBuilder input = new StringBuilder();
    private final StringBuilder output = new StringBuilder();
    private final Sum sum = new Sum();
    private final Factors factors = new Factors();
    private final int[] letters = new int[Words.MAX_LENGTH];

    public ShuffleAlgebra() {
        for (int i = 0; i < REGISTERS; i++) {
            registers[i] = new Polynomial();
            savedRegisters[i] = new Polynomial();
        }
    }

    // ---- words

    public int appendLetter(int word, int letter) {
        if (!hasWord(word)) {
            return NO_SUCH_WORD;
        }
        if (!Words.hasLetter(letter)) {
            return NO_SUCH_LETTER;
        }
        int length = Words.lengthOf(words[word]);
        if (length >= Words.MAX_LENGTH) {
            return FULL;
        }
        words[word] = Words.appended(words[word], letter);
        return length + 1;
    }

    public int clearWord(int word) {
        if (!hasWord(word)) {
            return NO_SUCH_WORD;
        }
        int length = Words.lengthOf(words[word]);
        words[word] = Words.EMPTY;
        return length;
    }

    public int wordLength(int word) {
        return hasWord(word) ? Words.lengthOf(words[word]) : NO_SUCH_WORD;
    }

    public int wordLetter(int word, int index) {
        return hasWord(word) ? letterOrNone(words[word], index) : NO_SUCH_WORD;
    }

    public int reverseWord(int word, int target) {
        if (!hasWord(word) || !hasWord(target)) {
            return NO_SUCH_WORD;
        }
        words[target] = Words.reversed(words[word]);
        return Words.lengthOf(words[target]);
    }

    public int subwordCount(int u, int w) {
        if (!hasWord(u) || !hasWord(w)) {
            return NO_SUCH_WORD;
        }
        return Subwords.occurrences(words[u], words[w]);
    }

    public int splitCount(int u, int v, int w) {
        if (!hasWord(u) || !hasWord(v) || !hasWord(w)) {
            return NO_SUCH_WORD;
        }
        return Subwords.covers(words[u], words[v], words[w], false);
    }

    public int coverCount(int u, int v, int w) {
        if (!hasWord(u) || !hasWord(v) || !hasWord(w)) {
            return NO_SUCH_WORD;
        }
        return Subwords.covers(words[u], words[v], words[w], true);
    }

    // ---- Lyndon words

    public int isLyndon(int word) {
        if (!hasWord(word)) {
            return NO_SUCH_WORD;
        }
        return isLyndonCode(words[word]) ? 1 : 0;
    }

    public int factorCount(int word) {
        if (!hasWord(word)) {
            return NO_SUCH_WORD;
        }
        factors.read(words[word]);
        return factors.size();
    }

    public int factorStart(int word, int factor) {
        if (!hasWord(word)) {
            return NO_SUCH_WORD;
        }
        factors.read(words[word]);
        return factor >= 0 && factor < factors.size() ? factors.startOf(factor) : NONE;
    }

    public int nextLyndon(int word, int maxLength) {
        if (!hasWord(word)) {
            return NO_SUCH_WORD;
        }
        if (maxLength < 1 || maxLength > Words.MAX_LENGTH) {
            return BAD_VALUE;
        }
        int length = Words.unpack(words[word], letters);
        int next = Lyndon.codeAfter(letters, length, maxLength);
        if (next == Words.EMPTY) {
            return NONE;
        }
        words[word] = next;
        return Words.lengthOf(next);
    }

    public int lyndonCount(int length) {
        return length >= 1 && length <= Lyndon.MAX_COUNTED ? Lyndon.countOf(length) : BAD_VALUE;
    }

    public int bracket(int word, int target) {
        if (!hasWord(word)) {
            return NO_SUCH_WORD;
        }
        Polynomial result = registerAt(target);
        if (result == null) {
            return NO_SUCH_REGISTER;
        }
        if (!isLyndonCode(words[word])) {
            return NOT_LYNDON;
        }
        int length = Words.unpack(words[word], letters);
        Brackets.addBracket(sum, letters, length, true, 1);
        return sum.moveTo(result);
    }

    public int basis(int word, int target) {
        if (!hasWord(word)) {
            return NO_SUCH_WORD;
        }
        Polynomial result = registerAt(target);
        if (result == null) {
            return NO_SUCH_REGISTER;
        }
        factors.read(words[word]);
        Products.addShuffles(sum, factors, Words.EMPTY, 1);
        return sum.moveTo(result);
    }

    // ---- polynomials

    public int clearPolynomial(int register) {
        Polynomial source = registerAt(register);
        if (source == null) {
            return NO_SUCH_REGISTER;
        }
        int size = source.size();
        source.clear();
        return size;
    }

    public int addTerm(int register, int word, int coefficient) {
        Polynomial source = registerAt(register);
        if (source == null) {
            return NO_SUCH_REGISTER;
        }
        if (!hasWord(word)) {
            return NO_SUCH_WORD;
        }
        if (coefficient < -MAX_COEFFICIENT || coefficient > MAX_COEFFICIENT) {
            return BAD_VALUE;
        }
        sum.putAll(source, 1);
        sum.put(words[word], coefficient);
        return sum.moveTo(source);
    }

    public long coefficient(int register, int word) {
        Polynomial source = registerAt(register);
        return source != null && hasWord(word) ? source.numberOf(words[word]) : NO_VALUE;
    }

    public int termCount(int register) {
        Polynomial source = registerAt(register);
        return source != null ? source.size() : NO_SUCH_REGISTER;
    }

    public int termLength(int register, int term) {
        Polynomial source = registerAt(register);
        if (source == null) {
            return NO_SUCH_REGISTER;
        }
        return source.hasTerm(term) ? Words.lengthOf(source.codeAt(term)) : NONE;
    }

    public int termLetter(int register, int term, int index) {
        Polynomial source = registerAt(register);
        if (source == null) {
            return NO_SUCH_REGISTER;
        }
        return source.hasTerm(term) ? letterOrNone(source.codeAt(term), index) : NONE;
    }

    public long termCoefficient(int register, int term) {
        Polynomial source = registerAt(register);
        return source != null && source.hasTerm(term) ? source.numberAt(term) : NO_VALUE;
    }

    public int add(int register, int other, int target) {
        Polynomial first = registerAt(register);
        Polynomial second = registerAt(other);
        Polynomial result = registerAt(target);
        if (first == null || second == null || result == null) {
            return NO_SUCH_REGISTER;
        }
        sum.putAll(first, 1);
        sum.putAll(second, 1);
        return sum.moveTo(result);
    }

    public int scale(int register, int factor, int target) {
        Polynomial source = registerAt(register);
        Polynomial result = registerAt(target);
        if (source == null || result == null) {
            return NO_SUCH_REGISTER;
        }
        if (factor < -MAX_FACTOR || factor > MAX_FACTOR) {
            return BAD_VALUE;
        }
        sum.putAll(source, factor);
        return sum.moveTo(result);
    }

    public int multiply(int kind, int register, int other, int target) {
        if (kind != CONCATENATION && kind != SHUFFLE && kind != INFILTRATION) {
            return BAD_VALUE;
        }
        Polynomial first = registerAt(register);
        Polynomial second = registerAt(other);
        Polynomial result = registerAt(target);
        if (first == null || second == null || result == null) {
            return NO_SUCH_REGISTER;
        }
        if (first.longestWord() + second.longestWord() > Words.MAX_LENGTH) {
            return TOO_LONG;
        }
        Products.addProduct(sum, kind, first, second);
        return sum.moveTo(result);
    }

    public int antipode(int register, int target) {
        Polynomial source = registerAt(register);
        Polynomial result = registerAt(target);
        if (source == null || result == null) {
            return NO_SUCH_REGISTER;
        }
        for (int i = 0; i < source.size(); i++) {
            int code = source.codeAt(i);
            int sign = Words.hasEvenLength(code) ? 1 : -1;
            sum.put(Words.reversed(code), sign * source.numberAt(i));
        }
        return sum.moveTo(result);
    }

    public int residual(int side, int register, int letter, int target) {
        if (side != BEGIN_SIDE && side != END_SIDE) {
            return BAD_VALUE;
        }
        Polynomial source = registerAt(register);
        Polynomial result = registerAt(target);
        if (source == null || result == null) {
            return NO_SUCH_REGISTER;
        }
        if (!Words.hasLetter(letter)) {
            return NO_SUCH_LETTER;
        }
        for (int i = 0; i < source.size(); i++) {
            int code = source.codeAt(i);
            int index = side == BEGIN_SIDE ? 0 : Words.lengthOf(code) - 1;
            if (Words.letterAt(code, index) == letter) {
                sum.put(Words.withoutLetter(code, index), source.numberAt(i));
            }
        }
        return sum.moveTo(result);
    }

    public int derive(int register, int letter, int target) {
        Polynomial source = registerAt(register);
        Polynomial result = registerAt(target);
        if (source == null || result == null) {
            return NO_SUCH_REGISTER;
        }
        if (!Words.hasLetter(letter)) {
            return NO_SUCH_LETTER;
        }
        for (int i = 0; i < source.size(); i++) {
            int code = source.codeAt(i);
            int length = Words.lengthOf(code);
            for (int index = 0; index < length; index++) {
                if (Words.letterAt(code, index) == letter) {
                    sum.put(Words.withoutLetter(code, index), source.numberAt(i));
                }
            }
        }
        return sum.moveTo(result);
    }

    public long pair(int register, int other) {
        Polynomial first = registerAt(register);
        Polynomial second = registerAt(other);
        if (first == null || second == null) {
            return NO_VALUE;
        }
        long total = 0;
        for (int i = 0; i < first.size(); i++) {
            total += first.numberAt(i) * second.numberOf(first.codeAt(i));
        }
        return total;
    }

    public int coordinates(int register, int target) {
        Polynomial source = registerAt(register);
        Polynomial result = registerAt(target);
        if (source == null || result == null) {
            return NO_SUCH_REGISTER;
        }
        sum.putAll(source, 1);
        // Basis polynomials reach only downwards: what stands at a word when all words above it are settled is its
        // coordinate, and stays it.
        for (int code = sum.highestCode(); code > Words.EMPTY; code--) {
            long coordinate = sum.amountOf(code);
            if (!fits(coordinate)) {
                sum.clear();
                return OVERFLOW;
            }
            if (coordinate != 0) {
                factors.read(code);
                Products.addShuffles(sum, factors, Words.EMPTY, -coordinate);
                sum.put(code, coordinate);
            }
        }
        return sum.moveTo(result);
    }

    public int isLie(int register) {
        Polynomial source = registerAt(register);
        if (source == null) {
            return NO_SUCH_REGISTER;
        }
        if (source.numberOf(Words.EMPTY) != 0) {
            return 0;
        }
        for (int i = 0; i < source.size(); i++) {
            int length = Words.unpack(source.codeAt(i), letters);
            Brackets.addBracket(sum, letters, length, false, source.numberAt(i));
            sum.put(source.codeAt(i), -length * source.numberAt(i));
        }
        boolean same = sum.isZero();
        sum.clear();
        return same ? 1 : 0;
    }

    // ---- text

    public int appendCharacter(int character) {
        if (character < FIRST_CHARACTER || character > LAST_CHARACTER) {
            return BAD_VALUE;
        }
        if (input.length() >= MAX_INPUT) {
            return FULL;
        }
        input.append((char) character);
        return input.length();
    }

    public int parsePolynomial(int target) {
        String text = takeInput();
        Polynomial result = registerAt(target);
        if (result == null) {
            return NO_SUCH_REGISTER;
        }
        int error = Text.errorPosition(text);
        if (error != Text.NO_ERROR) {
            return SYNTAX_ERROR - error;
        }
        Text.addTerms(sum, text);
        return sum.moveTo(result);
    }

    public int write(int register) {
        Polynomial source = registerAt(register);
        if (source == null) {
            return NO_SUCH_REGISTER;
        }
        output.setLength(0);
        for (int i = 0; i < source.size(); i++) {
            Text.appendTerm(output, source.codeAt(i), source.numberAt(i));
        }
        if (output.length() == 0) {
            output.append('0');
        }
        return output.length();
    }

    public int outputCharacter(int index) {
        return index >= 0 && index < output.length() ? output.charAt(index) : NONE;
    }

    public int transform(int register, int target) {
        String name = takeInput();
        Polynomial source = registerAt(register);
        Polynomial result = registerAt(target);
        if (source == null || result == null) {
            return NO_SUCH_REGISTER;
        }
        if (!isTransformation(name)) {
            return NO_SUCH_NAME;
        }
        for (int i = 0; i < source.size(); i++) {
            addTransformed(name, source.codeAt(i), source.numberAt(i));
        }
        return sum.moveTo(result);
    }

    // ---- snapshot

    public int saveSnapshot() {
        saved = true;
        return copyState(words, registers, savedWords, savedRegisters);
    }

    public int restoreSnapshot() {
        if (!saved) {
            return NONE;
        }
        return copyState(savedWords, savedRegisters, words, registers);
    }

    // ---- what the calls above share

    private static boolean hasWord(int word) {
        return word >= 0 && word < WORD_BUFFERS;
    }

    private static boolean fits(long number) {
        return number >= -MAX_COEFFICIENT && number <= MAX_COEFFICIENT;
    }

    /** The register with this number, or null. */
    private Polynomial registerAt(int register) {
        return register >= 0 && register < REGISTERS ? registers[register] : null;
    }

    private static int letterOrNone(int code, int index) {
        return index >= 0 && index < Words.lengthOf(code) ? Words.letterAt(code, index) : NONE;
    }

    private boolean isLyndonCode(int code) {
        factors.read(code);
        return factors.size() == 1;
    }

    private String takeInput() {
        String text = input.toString();
        input.setLength(0);
        return text;
    }

    private static boolean isTransformation(String name) {
        return name.equals(REVERSE) || name.equals(NEGATE) || name.equals(EVEN) || name.equals(ODD)
                || name.equals(LYNDON);
    }

    private void addTransformed(String name, int code, long number) {
        if (name.equals(REVERSE)) {
            sum.put(Words.reversed(code), number);
        } else if (name.equals(NEGATE)) {
            sum.put(code, -number);
        } else if (isKept(name, code)) {
            sum.put(code, number);
        }
    }

    private boolean isKept(String name, int code) {
        if (name.equals(LYNDON)) {
            return isLyndonCode(code);
        }
        return Words.hasEvenLength(code) == name.equals(EVEN);
    }

    /** Returns the number of terms that were copied. */
    private static int copyState(int[] fromWords, Polynomial[] from, int[] toWords, Polynomial[] to) {
        System.arraycopy(fromWords, 0, toWords, 0, WORD_BUFFERS);
        int terms = 0;
        for (int i = 0; i < REGISTERS; i++) {
            to[i].copyFrom(from[i]);
            terms += to[i].size();
        }
        return terms;
    }

    /**
     * Words as numbers: 0 is the empty word, and a letter at the end of the word c makes it 3 c + 1 + letter. So the
     * codes 0 to 9840 are just the words of at most 8 letters, and their order is the term order.
     */
    private static final class Words {
        static final int MAX_LENGTH = 8;
        static final int EMPTY = 0;
        static final int COUNT = 9841;
        static final int NO_LETTER = -1;
        private static final int LETTERS = 3;
        private static final int[] POWERS = {1, 3, 9, 27, 81, 243, 729, 2187, 6561};

        static boolean hasLetter(int letter) {
            return letter >= 0 && letter < LETTERS;
        }

        static int appended(int code, int letter) {
            return LETTERS * code + 1 + letter;
        }

        static int lastLetter(int code) {
            return code > EMPTY ? (code - 1) % LETTERS : NO_LETTER;
        }

        static int withoutLast(int code) {
            return code > EMPTY ? (code - 1) / LETTERS : EMPTY;
        }

        static int lengthOf(int code) {
            int rest = code;
            int length = 0;
            while (length < MAX_LENGTH && rest > EMPTY) {
                rest = withoutLast(rest);
                length++;
            }
            return length;
        }

        static boolean hasEvenLength(int code) {
            return lengthOf(code) % 2 == 0;
        }

        static int reversed(int code) {
            int rest = code;
            int result = EMPTY;
            for (int left = lengthOf(code); left > 0; left--) {
                result = appended(result, lastLetter(rest));
                rest = withoutLast(rest);
            }
            return result;
        }

        /** By which a code is multiplied when this many letters are put behind its word. */
        private static int powerOf(int length) {
            return length >= 0 && length < POWERS.length ? POWERS[length] : 0;
        }

        static int concatenated(int left, int right) {
            return left * powerOf(lengthOf(right)) + right;
        }

        /** The first letters of a word, up to and with the one at index. */
        private static int headOf(int code, int index) {
            int head = code;
            for (int i = lengthOf(code) - 1; i > index; i--) {
                head = withoutLast(head);
            }
            return head;
        }

        static int letterAt(int code, int index) {
            return index >= 0 && index < lengthOf(code) ? lastLetter(headOf(code, index)) : NO_LETTER;
        }

        static int withoutLetter(int code, int index) {
            int behind = lengthOf(code) - 1 - index;
            if (index < 0 || behind < 0) {
                return code;
            }
            int head = headOf(code, index);
            int tail = code - head * powerOf(behind);
            return withoutLast(head) * powerOf(behind) + tail;
        }

        /** Writes the letters of a word into a row and returns their number. */
        static int unpack(int code, int[] letters) {
            int length = Math.min(lengthOf(code), letters.length);
            int rest = code;
            for (int i = length - 1; i >= 0; i--) {
                letters[i] = lastLetter(rest);
                rest = withoutLast(rest);
            }
            return length;
        }
    }

    /** Counts of subwords. The words are looked at from their ends, because codes give up their last letters first. */
    private static final class Subwords {
        private static int occurrences(int u, int w) {
            if (u == Words.EMPTY) {
                return 1;
            }
            if (w <= Words.EMPTY || w >= Words.COUNT) {
                return 0;
            }
            int rest = Words.withoutLast(w);
            int count = occurrences(u, rest);
            if (Words.lastLetter(u) == Words.lastLetter(w)) {
                count += occurrences(Words.withoutLast(u), rest);
            }
            return count;
        }

        /** In how many ways each letter of w can be given to u, to v or, with overlap, to both, using them up. */
        private static int covers(int u, int v, int w, boolean overlap) {
            if (w <= Words.EMPTY || w >= Words.COUNT) {
                return u == Words.EMPTY && v == Words.EMPTY ? 1 : 0;
            }
            int letter = Words.lastLetter(w);
            int rest = Words.withoutLast(w);
            boolean toU = Words.lastLetter(u) == letter;
            boolean toV = Words.lastLetter(v) == letter;
            int count = 0;
            if (toU) {
                count += covers(Words.withoutLast(u), v, rest, overlap);
            }
            if (toV) {
                count += covers(u, Words.withoutLast(v), rest, overlap);
            }
            if (overlap && toU && toV) {
                count += covers(Words.withoutLast(u), Words.withoutLast(v), rest, true);
            }
            return count;
        }
    }

    private static final class Lyndon {
        static final int MAX_COUNTED = 12;
        private static final int[] COUNTS = {0, 3, 3, 8, 18, 48, 116, 312, 810, 2184, 5880, 16104, 44220};

        static int countOf(int length) {
            return length >= 0 && length < COUNTS.length ? COUNTS[length] : 0;
        }

        /** The length of the longest Lyndon word with which the letters in a range, at least one, begin. */
        static int prefixLength(int[] letters, int from, int to) {
            int period = 1;
            for (int i = from + 1; i < to; i++) {
                int letter = letterOf(letters, i);
                int before = letterOf(letters, i - period);
                if (letter < before) {
                    return period;
                }
                if (letter > before) {
                    period = i + 1 - from;
                }
            }
            return period;
        }

        private static int letterOf(int[] letters, int index) {
            return index >= 0 && index < letters.length ? letters[index] : Words.NO_LETTER;
        }

        static boolean isWhole(int[] letters, int from, int to) {
            return prefixLength(letters, from, to) == to - from;
        }

        /**
         * The first Lyndon word behind a word, or the empty one. A word that begins like it and then falls below its
         * own period isn't a Lyndon word, nor is one that only goes on with the period; so the first one comes behind
         * the word that goes on with the period to the end (Duval). The row of letters is used up.
         */
        static int codeAfter(int[] letters, int length, int maxLength) {
            if (length == 0) {
                return Words.appended(Words.EMPTY, 0);
            }
            goOnWithPeriod(letters, length, maxLength);
            int last = Math.min(maxLength, letters.length) - 1;
            while (last >= 0 && !Words.hasLetter(letters[last] + 1)) {
                last--;
            }
            if (last < 0) {
                return Words.EMPTY;
            }
            letters[last]++;
            int code = Words.EMPTY;
            for (int i = 0; i <= last; i++) {
                code = Words.appended(code, letters[i]);
            }
            return code;
        }

        private static void goOnWithPeriod(int[] letters, int length, int maxLength) {
            int period = 1;
            int kept = length;
            for (int i = 1; i < maxLength && i < letters.length; i++) {
                int before = letterOf(letters, i - period);
                if (i >= kept || letters[i] < before) {
                    kept = i;
                    letters[i] = before;
                } else if (letters[i] > before) {
                    period = i + 1;
                }
            }
        }
    }

    /** The Lyndon factors of the word that was read last. */
    private static final class Factors {
        private final int[] letters = new int[Words.MAX_LENGTH];
        private final int[] starts = new int[Words.MAX_LENGTH + 1];
        private final int[] used = new int[Words.MAX_LENGTH];
        private final boolean[] repeated = new boolean[Words.MAX_LENGTH];
        private int size;

        void read(int code) {
            int length = Words.unpack(code, letters);
            size = 0;
            int start = 0;
            while (size < Words.MAX_LENGTH && start < length) {
                starts[size] = start;
                start += Lyndon.prefixLength(letters, start, length);
                used[size] = 0;
                size++;
                starts[size] = length;
            }
            for (int i = 0; i < size; i++) {
                repeated[i] = i > 0 && isSame(i - 1, i);
            }
        }

        int size() {
            return size;
        }

        int startOf(int factor) {
            return factor >= 0 && factor < size ? starts[factor] : 0;
        }

        private int sizeOf(int factor) {
            return factor >= 0 && factor < size ? starts[factor + 1] - starts[factor] : 0;
        }

        private boolean isSame(int factor, int other) {
            if (sizeOf(factor) != sizeOf(other)) {
                return false;
            }
            for (int i = 0; i < sizeOf(factor); i++) {
                if (letterOf(factor, i) != letterOf(other, i)) {
                    return false;
                }
            }
            return true;
        }

        private int letterOf(int factor, int index) {
            return index >= 0 && index < sizeOf(factor) ? letters[starts[factor] + index] : Words.NO_LETTER;
        }

        /**
         * Whether the next letter of a shuffle may come from a factor. Equal factors begin one after another, so that
         * each set of places for them is met once; this does the division by the factorials.
         */
        boolean canTake(int factor) {
            return factor >= 0 && factor < size && used[factor] < sizeOf(factor)
                    && (!repeated[factor] || used[factor - 1] > 0);
        }

        int nextLetter(int factor) {
            return canTake(factor) ? letterOf(factor, used[factor]) : Words.NO_LETTER;
        }

        void take(int factor) {
            if (factor >= 0 && factor < size) {
                used[factor]++;
            }
        }

        void giveBack(int factor) {
            if (factor >= 0 && factor < size) {
                used[factor]--;
            }
        }
    }

    private static final class Products {
        static void addProduct(Sum sum, int kind, Polynomial first, Polynomial second) {
            for (int i = 0; i < first.size(); i++) {
                for (int j = 0; j < second.size(); j++) {
                    long amount = first.numberAt(i) * second.numberAt(j);
                    addWords(sum, kind, first.codeAt(i), second.codeAt(j), amount);
                }
            }
        }

        private static void addWords(Sum sum, int kind, int u, int v, long amount) {
            if (kind == CONCATENATION) {
                sum.put(Words.concatenated(u, v), amount);
            } else {
                addMixtures(sum, kind == INFILTRATION, Words.EMPTY, Words.reversed(u), Words.reversed(v), amount);
            }
        }

        /**
         * Adds all words that begin with a prefix and go on with a mixture of u and v. They are given backwards,
         * because codes give up their last letters first.
         */
        private static void addMixtures(Sum sum, boolean overlap, int prefix, int u, int v, long amount) {
            if (prefix >= Words.COUNT) {
                return;
            }
            if (u == Words.EMPTY && v == Words.EMPTY) {
                sum.put(prefix, amount);
                return;
            }
            int fromU = Words.lastLetter(u);
            int fromV = Words.lastLetter(v);
            if (u != Words.EMPTY) {
                addMixtures(sum, overlap, Words.appended(prefix, fromU), Words.withoutLast(u), v, amount);
            }
            if (v != Words.EMPTY) {
                addMixtures(sum, overlap, Words.appended(prefix, fromV), u, Words.withoutLast(v), amount);
            }
            if (overlap && fromU == fromV) {
                int longer = Words.appended(prefix, fromU);
                addMixtures(sum, true, longer, Words.withoutLast(u), Words.withoutLast(v), amount);
            }
        }

        /** Adds all words that begin with a prefix and go on with a shuffle of what is left of the factors. */
        private static void addShuffles(Sum sum, Factors factors, int prefix, long amount) {
            if (prefix >= Words.COUNT) {
                return;
            }
            boolean complete = true;
            for (int i = 0; i < factors.size(); i++) {
                if (factors.canTake(i)) {
                    complete = false;
                    int longer = Words.appended(prefix, factors.nextLetter(i));
                    factors.take(i);
                    addShuffles(sum, factors, longer, amount);
                    factors.giveBack(i);
                }
            }
            if (complete) {
                sum.put(prefix, amount);
            }
        }
    }

    private static final class Brackets {
        /**
         * Adds the bracket of a word of at least one letter: the standard one of a Lyndon word, or the left one. Each
         * of its commutators belongs to the gap between two letters at which it divides the word, and gives two words,
         * of which the one with swapped parts has the opposite sign.
         */
        static void addBracket(Sum sum, int[] letters, int length, boolean standard, long amount) {
            if (length < 1 || length > Words.MAX_LENGTH || length > letters.length) {
                return;
            }
            int choices = 1 << (length - 1);
            for (int swaps = 0; swaps < choices; swaps++) {
                int code = appendSwapped(Words.EMPTY, letters, 0, length, standard, swaps);
                sum.put(code, Integer.bitCount(swaps) % 2 == 0 ? amount : -amount);
            }
        }

        /** Appends the letters of a range to a word, the parts swapped at the gaps whose bits are set. */
        private static int appendSwapped(int code, int[] letters, int from, int to, boolean standard, int swaps) {
            if (from < 0 || from >= to || to > letters.length) {
                return code;
            }
            if (to - from == 1) {
                return Words.appended(code, letters[from]);
            }
            int gap = standard ? standardGap(letters, from, to) : to - 1;
            if ((swaps >> (gap - 1) & 1) != 0) {
                int right = appendSwapped(code, letters, gap, to, standard, swaps);
                return appendSwapped(right, letters, from, gap, standard, swaps);
            }
            int left = appendSwapped(code, letters, from, gap, standard, swaps);
            return appendSwapped(left, letters, gap, to, standard, swaps);
        }

        /** Where the longest proper suffix begins that is a Lyndon word. */
        private static int standardGap(int[] letters, int from, int to) {
            int gap = from + 1;
            while (gap < to - 1 && !Lyndon.isWhole(letters, gap, to)) {
                gap++;
            }
            return gap;
        }
    }

    /** A register: terms in the term order, which is the order of the codes. */
    private static final class Polynomial {
        private final int[] codes = new int[MAX_TERMS];
        private final int[] numbers = new int[MAX_TERMS];
        private int size;

        int size() {
            return size;
        }

        boolean hasTerm(int term) {
            return term >= 0 && term < size;
        }

        int codeAt(int term) {
            return hasTerm(term) ? codes[term] : Words.EMPTY;
        }

        long numberAt(int term) {
            return hasTerm(term) ? numbers[term] : 0;
        }

        /** The coefficient of a word, 0 if it has no term. */
        long numberOf(int code) {
            for (int i = 0; i < size; i++) {
                if (codeAt(i) == code) {
                    return numberAt(i);
                }
            }
            return 0;
        }

        /** How many letters the longest word has; 0 for the polynomial 0, with which no product is too long. */
        int longestWord() {
            return Words.lengthOf(codeAt(size - 1));
        }

        void clear() {
            size = 0;
        }

        /** Appends a term whose word comes behind all others; there must be room. */
        void append(int code, long number) {
            if (size < MAX_TERMS) {
                codes[size] = code;
                numbers[size] = (int) number;
                size++;
            }
        }

        void copyFrom(Polynomial other) {
            System.arraycopy(other.codes, 0, codes, 0, MAX_TERMS);
            System.arraycopy(other.numbers, 0, numbers, 0, MAX_TERMS);
            size = other.size;
        }
    }

    /** A sum of any number of terms with coefficients of any size, which is 0 between two calls. */
    private static final class Sum {
        private final long[] amounts = new long[Words.COUNT];
        private int lowest = Words.COUNT;
        private int highest = -1;

        void put(int code, long amount) {
            if (code < 0 || code >= Words.COUNT) {
                return;
            }
            amounts[code] += amount;
            lowest = Math.min(lowest, code);
            highest = Math.max(highest, code);
        }

        void putAll(Polynomial terms, int factor) {
            for (int i = 0; i < terms.size(); i++) {
                put(terms.codeAt(i), factor * terms.numberAt(i));
            }
        }

        long amountOf(int code) {
            return code >= 0 && code < Words.COUNT ? amounts[code] : 0;
        }

        int highestCode() {
            return highest;
        }

        boolean isZero() {
            for (int code = lowest; code <= highest; code++) {
                if (amountOf(code) != 0) {
                    return false;
                }
            }
            return true;
        }

        void clear() {
            for (int code = lowest; code <= highest; code++) {
                amounts[code] = 0;
            }
            lowest = Words.COUNT;
            highest = -1;
        }

        /** Makes the polynomial equal to this sum, if it fits, and this sum 0. Returns the number of terms or an error. */
        int moveTo(Polynomial target) {
            int terms = countTerms();
            if (terms >= 0) {
                target.clear();
                for (int code = lowest; code <= highest; code++) {
                    if (amountOf(code) != 0) {
                        target.append(code, amountOf(code));
                    }
                }
            }
            clear();
            return terms;
        }

        private int countTerms() {
            int terms = 0;
            for (int code = lowest; code <= highest; code++) {
                if (!fits(amountOf(code))) {
                    return OVERFLOW;
                }
                if (amountOf(code) != 0) {
                    terms++;
                }
            }
            return terms <= MAX_TERMS ? terms : FULL;
        }
    }

    private static final class Text {
        static final int NO_ERROR = -1;
        private static final int MAX_DIGITS = 7;

        static int errorPosition(String text) {
            int digits = 0;
            int letters = 0;
            for (int i = 0; i < text.length(); i++) {
                char c = text.charAt(i);
                boolean begun = digits + letters > 0;
                if (isLetter(c) && letters < Words.MAX_LENGTH) {
                    letters++;
                } else if (isDigit(c) && letters == 0 && digits < MAX_DIGITS) {
                    digits++;
                } else if (c == '+' && begun || c == '-' && (begun || i == 0)) {
                    digits = 0;
                    letters = 0;
                } else {
                    return i;
                }
            }
            return digits + letters > 0 ? NO_ERROR : text.length();
        }

        /** Adds the terms of a text without errors to a sum. */
        static void addTerms(Sum sum, String text) {
            int start = 0;
            for (int i = 1; i <= text.length(); i++) {
                if (i == text.length() || isSign(text.charAt(i))) {
                    addSignedTerm(sum, text, start, i);
                    start = i;
                }
            }
        }

        private static void addSignedTerm(Sum sum, String text, int from, int to) {
            boolean negative = false;
            boolean counted = false;
            long number = 0;
            int code = Words.EMPTY;
            for (int i = from; i < to && i < text.length(); i++) {
                char c = text.charAt(i);
                if (isLetter(c)) {
                    code = Words.appended(code, c - 'a');
                } else if (isDigit(c)) {
                    counted = true;
                    number = 10 * number + (c - '0');
                } else {
                    negative = c == '-';
                }
            }
            long amount = counted ? number : 1;
            sum.put(code, negative ? -amount : amount);
        }

        static void appendTerm(StringBuilder output, int code, long number) {
            if (number < 0) {
                output.append('-');
            } else if (output.length() > 0) {
                output.append('+');
            }
            int size = (int) Math.abs(number);
            if (size != 1 || code == Words.EMPTY) {
                output.append(size);
            }
            for (int i = 0; i < Words.lengthOf(code); i++) {
                output.append((char) ('a' + Words.letterAt(code, i)));
            }
        }

        private static boolean isLetter(char c) {
            return c >= 'a' && c <= 'c';
        }

        private static boolean isDigit(char c) {
            return c >= '0' && c <= '9';
        }

        private static boolean isSign(char c) {
            return c == '+' || c == '-';
        }
    }
}
