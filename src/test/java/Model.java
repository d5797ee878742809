import java.math.BigInteger;
import java.util.ArrayList;
import java.util.Comparator;
import java.util.List;
import java.util.Map;
import java.util.TreeMap;
import java.util.regex.Matcher;
import java.util.regex.Pattern;

/**
 * The document once more, by its definitions word for word and without any regard to speed: words are Strings (whose
 * compareTo is the dictionary order) and polynomials are maps with coefficients of any size.
 */
final class Model {
    static final Comparator<String> TERM_ORDER = Comparator.comparingInt(String::length)
            .thenComparing(Comparator.naturalOrder());
    private static final Pattern SYNTAX = Pattern.compile(
            "-?([0-9]{1,7}[abc]{1,8}|[0-9]{1,7}|[abc]{1,8})([+-]([0-9]{1,7}[abc]{1,8}|[0-9]{1,7}|[abc]{1,8}))*");
    private static final Pattern TERM = Pattern.compile("([+-]?)([0-9]*)([abc]*)");
    private static List<String> lyndonWords;

    String[] words = {"", "", ""};
    List<Poly> registers = new ArrayList<>();
    String[] savedWords;
    List<Poly> savedRegisters;
    String input = "";
    String output = "";

    static final class Poly extends TreeMap<String, BigInteger> {
        private static final long serialVersionUID = 1L;

        Poly() {
            super(TERM_ORDER);
        }

        Poly plus(String word, BigInteger number) {
            BigInteger sum = getOrDefault(word, BigInteger.ZERO).add(number);
            if (sum.signum() == 0) {
                remove(word);
            } else {
                put(word, sum);
            }
            return this;
        }

        Poly plus(Poly other, BigInteger factor) {
            for (Map.Entry<String, BigInteger> term : other.entrySet()) {
                plus(term.getKey(), term.getValue().multiply(factor));
            }
            return this;
        }

        Poly plus(Poly other, long factor) {
            return plus(other, BigInteger.valueOf(factor));
        }
    }

    Model() {
        for (int i = 0; i < 5; i++) {
            registers.add(new Poly());
        }
    }

    // ---- the terms of the document

    static Poly single(String word) {
        return new Poly().plus(word, BigInteger.ONE);
    }

    static String reverse(String word) {
        return new StringBuilder(word).reverse().toString();
    }

    static String at(String word, int positions) {
        StringBuilder text = new StringBuilder();
        for (int i = 0; i < word.length(); i++) {
            if ((positions >> i & 1) != 0) {
                text.append(word.charAt(i));
            }
        }
        return text.toString();
    }

    static Poly shuffle(String u, String v) {
        Poly result = new Poly();
        int length = u.length() + v.length();
        for (int set = 0; set < 1 << length; set++) {
            if (Integer.bitCount(set) == u.length()) {
                StringBuilder word = new StringBuilder();
                int i = 0;
                int j = 0;
                for (int place = 0; place < length; place++) {
                    word.append((set >> place & 1) != 0 ? u.charAt(i++) : v.charAt(j++));
                }
                result.plus(word.toString(), BigInteger.ONE);
            }
        }
        return result;
    }

    /** All triples: for each length and two sets that cover it there is at most one word w. */
    static Poly infiltration(String u, String v) {
        Poly result = new Poly();
        for (int length = Math.max(u.length(), v.length()); length <= u.length() + v.length(); length++) {
            int all = (1 << length) - 1;
            for (int first = 0; first <= all; first++) {
                if (Integer.bitCount(first) != u.length()) {
                    continue;
                }
                for (int second = 0; second <= all; second++) {
                    if (Integer.bitCount(second) == v.length() && (first | second) == all) {
                        String w = covered(u, v, first, second, length);
                        if (at(w, first).equals(u) && at(w, second).equals(v)) {
                            result.plus(w, BigInteger.ONE);
                        }
                    }
                }
            }
        }
        return result;
    }

    private static String covered(String u, String v, int first, int second, int length) {
        StringBuilder word = new StringBuilder();
        for (int i = 0; i < length; i++) {
            int below = (1 << i) - 1;
            if ((first >> i & 1) != 0) {
                word.append(u.charAt(Integer.bitCount(first & below)));
            } else {
                word.append(v.charAt(Integer.bitCount(second & below)));
            }
        }
        return word.toString();
    }

    static Poly product(int kind, String u, String v) {
        return kind == 0 ? single(u + v) : kind == 1 ? shuffle(u, v) : infiltration(u, v);
    }

    static Poly product(int kind, Poly p, Poly q) {
        Poly result = new Poly();
        for (Map.Entry<String, BigInteger> s : p.entrySet()) {
            for (Map.Entry<String, BigInteger> t : q.entrySet()) {
                result.plus(product(kind, s.getKey(), t.getKey()), s.getValue().multiply(t.getValue()));
            }
        }
        return result;
    }

    static boolean lyndon(String word) {
        for (int i = 1; i < word.length(); i++) {
            if (word.compareTo(word.substring(i)) >= 0) {
                return false;
            }
        }
        return !word.isEmpty();
    }

    /** The one way to write a word as Lyndon words that don't rise, found by trying all first factors. */
    static List<String> factors(String word) {
        List<String> result = fall(word, null);
        if (result == null) {
            throw new IllegalStateException(word);
        }
        return result;
    }

    private static List<String> fall(String word, String before) {
        if (word.isEmpty()) {
            return new ArrayList<>();
        }
        for (int end = 1; end <= word.length(); end++) {
            String first = word.substring(0, end);
            if (lyndon(first) && (before == null || before.compareTo(first) >= 0)) {
                List<String> rest = fall(word.substring(end), first);
                if (rest != null) {
                    rest.add(0, first);
                    return rest;
                }
            }
        }
        return null;
    }

    static Poly commutator(Poly p, Poly q) {
        return product(0, p, q).plus(product(0, q, p), -1);
    }

    static Poly bracketOf(String word) {
        if (word.length() == 1) {
            return single(word);
        }
        int start = 1;
        while (!lyndon(word.substring(start))) {
            start++;
        }
        return commutator(bracketOf(word.substring(0, start)), bracketOf(word.substring(start)));
    }

    static Poly leftBracket(String word) {
        int last = word.length() - 1;
        return last == 0 ? single(word) : commutator(leftBracket(word.substring(0, last)), single(word.substring(last)));
    }

    static Poly basisOf(String word) {
        Poly product = single("");
        BigInteger divisor = BigInteger.ONE;
        String before = null;
        int times = 0;
        for (String factor : factors(word)) {
            product = product(1, product, single(factor));
            times = factor.equals(before) ? times + 1 : 1;
            divisor = divisor.multiply(BigInteger.valueOf(times));
            before = factor;
        }
        Poly result = new Poly();
        for (Map.Entry<String, BigInteger> term : product.entrySet()) {
            BigInteger[] parts = term.getValue().divideAndRemainder(divisor);
            if (parts[1].signum() != 0) {
                throw new IllegalStateException(word);
            }
            result.plus(term.getKey(), parts[0]);
        }
        return result;
    }

    static Poly coordinatesOf(Poly p) {
        Poly rest = new Poly().plus(p, 1);
        Poly result = new Poly();
        while (!rest.isEmpty()) {
            String word = rest.lastKey();
            BigInteger number = rest.get(word);
            result.plus(word, number);
            rest.plus(basisOf(word), number.negate());
        }
        return result;
    }

    static boolean lie(Poly p) {
        Poly image = new Poly();
        Poly multiple = new Poly();
        for (Map.Entry<String, BigInteger> term : p.entrySet()) {
            if (term.getKey().isEmpty()) {
                return false;
            }
            image.plus(leftBracket(term.getKey()), term.getValue());
            multiple.plus(term.getKey(), term.getValue().multiply(BigInteger.valueOf(term.getKey().length())));
        }
        return image.equals(multiple);
    }

    static List<String> allWords(int maxLength) {
        List<String> result = new ArrayList<>();
        result.add("");
        for (int i = 0; i < result.size(); i++) {
            if (result.get(i).length() < maxLength) {
                for (String letter : new String[] {"a", "b", "c"}) {
                    result.add(result.get(i) + letter);
                }
            }
        }
        return result;
    }

    /** In the dictionary order. */
    static List<String> lyndonWords() {
        if (lyndonWords == null) {
            lyndonWords = new ArrayList<>(allWords(8));
            lyndonWords.removeIf(word -> !lyndon(word));
            lyndonWords.sort(Comparator.naturalOrder());
        }
        return lyndonWords;
    }

    static int errorPosition(String text) {
        for (int k = 0; k < text.length(); k++) {
            Matcher matcher = SYNTAX.matcher(text.substring(0, k + 1));
            if (!matcher.matches() && !matcher.hitEnd()) {
                return k;
            }
        }
        return SYNTAX.matcher(text).matches() ? -1 : text.length();
    }

    // ---- the calls

    private boolean noWord(int... numbers) {
        for (int number : numbers) {
            if (number < 0 || number > 2) {
                return true;
            }
        }
        return false;
    }

    private boolean noRegister(int... numbers) {
        for (int number : numbers) {
            if (number < 0 || number > 4) {
                return true;
            }
        }
        return false;
    }

    private int keep(int target, Poly result) {
        BigInteger limit = BigInteger.valueOf(1000000);
        for (BigInteger number : result.values()) {
            if (number.abs().compareTo(limit) > 0) {
                return -7;
            }
        }
        if (result.size() > 120) {
            return -5;
        }
        registers.set(target, result);
        return result.size();
    }

    int appendLetter(int word, int letter) {
        if (noWord(word)) {
            return -2;
        }
        if (letter < 0 || letter > 2) {
            return -3;
        }
        if (words[word].length() == 8) {
            return -5;
        }
        words[word] += (char) ('a' + letter);
        return words[word].length();
    }

    int clearWord(int word) {
        if (noWord(word)) {
            return -2;
        }
        int length = words[word].length();
        words[word] = "";
        return length;
    }

    int wordLength(int word) {
        return noWord(word) ? -2 : words[word].length();
    }

    int wordLetter(int word, int index) {
        return noWord(word) ? -2 : letter(words[word], index);
    }

    private static int letter(String word, int index) {
        return index < 0 || index >= word.length() ? -8 : word.charAt(index) - 'a';
    }

    int reverseWord(int word, int target) {
        if (noWord(word, target)) {
            return -2;
        }
        words[target] = reverse(words[word]);
        return words[target].length();
    }

    int subwordCount(int u, int w) {
        if (noWord(u, w)) {
            return -2;
        }
        int count = 0;
        for (int set = 0; set < 1 << words[w].length(); set++) {
            count += at(words[w], set).equals(words[u]) ? 1 : 0;
        }
        return count;
    }

    int splitCount(int u, int v, int w) {
        if (noWord(u, v, w)) {
            return -2;
        }
        int all = (1 << words[w].length()) - 1;
        int count = 0;
        for (int set = 0; set <= all; set++) {
            count += at(words[w], set).equals(words[u]) && at(words[w], all - set).equals(words[v]) ? 1 : 0;
        }
        return count;
    }

    int coverCount(int u, int v, int w) {
        if (noWord(u, v, w)) {
            return -2;
        }
        int all = (1 << words[w].length()) - 1;
        int count = 0;
        for (int first = 0; first <= all; first++) {
            if (at(words[w], first).equals(words[u])) {
                for (int second = 0; second <= all; second++) {
                    count += (first | second) == all && at(words[w], second).equals(words[v]) ? 1 : 0;
                }
            }
        }
        return count;
    }

    int isLyndon(int word) {
        return noWord(word) ? -2 : lyndon(words[word]) ? 1 : 0;
    }

    int factorCount(int word) {
        return noWord(word) ? -2 : factors(words[word]).size();
    }

    int factorStart(int word, int factor) {
        if (noWord(word)) {
            return -2;
        }
        List<String> factors = factors(words[word]);
        if (factor < 0 || factor >= factors.size()) {
            return -8;
        }
        return String.join("", factors.subList(0, factor)).length();
    }

    int nextLyndon(int word, int maxLength) {
        if (noWord(word)) {
            return -2;
        }
        if (maxLength < 1 || maxLength > 8) {
            return -4;
        }
        for (String next : lyndonWords()) {
            if (next.length() <= maxLength && next.compareTo(words[word]) > 0) {
                words[word] = next;
                return next.length();
            }
        }
        return -8;
    }

    int lyndonCount(int length) {
        if (length < 1 || length > 12) {
            return -4;
        }
        // Each word of n letters is a power of one rotation of one Lyndon word whose length divides n.
        int[] counts = new int[length + 1];
        int power = 1;
        for (int n = 1; n <= length; n++) {
            power *= 3;
            int rest = power;
            for (int d = 1; d < n; d++) {
                rest -= n % d == 0 ? d * counts[d] : 0;
            }
            counts[n] = rest / n;
        }
        return counts[length];
    }

    int bracket(int word, int target) {
        if (noWord(word)) {
            return -2;
        }
        if (noRegister(target)) {
            return -1;
        }
        return lyndon(words[word]) ? keep(target, bracketOf(words[word])) : -9;
    }

    int basis(int word, int target) {
        if (noWord(word)) {
            return -2;
        }
        return noRegister(target) ? -1 : keep(target, basisOf(words[word]));
    }

    int clearPolynomial(int register) {
        if (noRegister(register)) {
            return -1;
        }
        return registers.set(register, new Poly()).size();
    }

    int addTerm(int register, int word, int coefficient) {
        if (noRegister(register)) {
            return -1;
        }
        if (noWord(word)) {
            return -2;
        }
        if (coefficient < -1000000 || coefficient > 1000000) {
            return -4;
        }
        Poly sum = new Poly().plus(registers.get(register), 1);
        return keep(register, sum.plus(words[word], BigInteger.valueOf(coefficient)));
    }

    long coefficient(int register, int word) {
        if (noRegister(register) || noWord(word)) {
            return Long.MIN_VALUE;
        }
        return registers.get(register).getOrDefault(words[word], BigInteger.ZERO).longValueExact();
    }

    int termCount(int register) {
        return noRegister(register) ? -1 : registers.get(register).size();
    }

    private String term(int register, int term) {
        return term < 0 || term >= termCount(register) ? null : new ArrayList<>(registers.get(register).keySet()).get(term);
    }

    int termLength(int register, int term) {
        if (noRegister(register)) {
            return -1;
        }
        return term(register, term) == null ? -8 : term(register, term).length();
    }

    int termLetter(int register, int term, int index) {
        if (noRegister(register)) {
            return -1;
        }
        return term(register, term) == null ? -8 : letter(term(register, term), index);
    }

    long termCoefficient(int register, int term) {
        if (noRegister(register) || term(register, term) == null) {
            return Long.MIN_VALUE;
        }
        return registers.get(register).get(term(register, term)).longValueExact();
    }

    int add(int register, int other, int target) {
        if (noRegister(register, other, target)) {
            return -1;
        }
        return keep(target, new Poly().plus(registers.get(register), 1).plus(registers.get(other), 1));
    }

    int scale(int register, int factor, int target) {
        if (noRegister(register, target)) {
            return -1;
        }
        if (factor < -1000 || factor > 1000) {
            return -4;
        }
        return keep(target, new Poly().plus(registers.get(register), factor));
    }

    int multiply(int kind, int register, int other, int target) {
        if (kind < 0 || kind > 2) {
            return -4;
        }
        if (noRegister(register, other, target)) {
            return -1;
        }
        for (String u : registers.get(register).keySet()) {
            for (String v : registers.get(other).keySet()) {
                if (u.length() + v.length() > 8) {
                    return -6;
                }
            }
        }
        return keep(target, product(kind, registers.get(register), registers.get(other)));
    }

    int antipode(int register, int target) {
        if (noRegister(register, target)) {
            return -1;
        }
        Poly result = new Poly();
        registers.get(register).forEach(
            (word, number) -> result.plus(reverse(word), word.length() % 2 == 1 ? number.negate() : number));
        return keep(target, result);
    }

    int residual(int side, int register, int letter, int target) {
        if (side < 0 || side > 1) {
            return -4;
        }
        if (noRegister(register, target)) {
            return -1;
        }
        if (letter < 0 || letter > 2) {
            return -3;
        }
        String sign = String.valueOf((char) ('a' + letter));
        Poly result = new Poly();
        registers.get(register).forEach((word, number) -> {
            if (side == 0 && word.startsWith(sign)) {
                result.plus(word.substring(1), number);
            } else if (side == 1 && word.endsWith(sign)) {
                result.plus(word.substring(0, word.length() - 1), number);
            }
        });
        return keep(target, result);
    }

    int derive(int register, int letter, int target) {
        if (noRegister(register, target)) {
            return -1;
        }
        if (letter < 0 || letter > 2) {
            return -3;
        }
        Poly result = new Poly();
        registers.get(register).forEach((word, number) -> {
            for (int i = 0; i < word.length(); i++) {
                if (word.charAt(i) == 'a' + letter) {
                    result.plus(new StringBuilder(word).deleteCharAt(i).toString(), number);
                }
            }
        });
        return keep(target, result);
    }

    long pair(int register, int other) {
        if (noRegister(register, other)) {
            return Long.MIN_VALUE;
        }
        BigInteger sum = BigInteger.ZERO;
        for (Map.Entry<String, BigInteger> term : registers.get(register).entrySet()) {
            sum = sum.add(term.getValue().multiply(registers.get(other).getOrDefault(term.getKey(), BigInteger.ZERO)));
        }
        return sum.longValueExact();
    }

    int coordinates(int register, int target) {
        return noRegister(register, target) ? -1 : keep(target, coordinatesOf(registers.get(register)));
    }

    int isLie(int register) {
        return noRegister(register) ? -1 : lie(registers.get(register)) ? 1 : 0;
    }

    int appendCharacter(int character) {
        if (character < 32 || character > 126) {
            return -4;
        }
        if (input.length() == 60) {
            return -5;
        }
        input += (char) character;
        return input.length();
    }

    int parsePolynomial(int target) {
        String text = input;
        input = "";
        if (noRegister(target)) {
            return -1;
        }
        int error = errorPosition(text);
        if (error >= 0) {
            return -100 - error;
        }
        Poly result = new Poly();
        Matcher matcher = TERM.matcher(text);
        while (matcher.find() && !matcher.group().isEmpty()) {
            String number = matcher.group(1).replace("+", "") + (matcher.group(2).isEmpty() ? "1" : matcher.group(2));
            result.plus(matcher.group(3), new BigInteger(number));
        }
        return keep(target, result);
    }

    int write(int register) {
        if (noRegister(register)) {
            return -1;
        }
        StringBuilder text = new StringBuilder();
        registers.get(register).forEach((word, number) -> {
            String sign = number.signum() < 0 ? "-" : text.length() > 0 ? "+" : "";
            boolean hidden = number.abs().equals(BigInteger.ONE) && !word.isEmpty();
            text.append(sign).append(hidden ? "" : number.abs().toString()).append(word);
        });
        output = text.length() == 0 ? "0" : text.toString();
        return output.length();
    }

    int outputCharacter(int index) {
        return index < 0 || index >= output.length() ? -8 : output.charAt(index);
    }

    int transform(int register, int target) {
        String name = input;
        input = "";
        if (noRegister(register, target)) {
            return -1;
        }
        if (!List.of("reverse", "negate", "even", "odd", "lyndon").contains(name)) {
            return -10;
        }
        Poly result = new Poly();
        registers.get(register).forEach((word, number) -> {
            boolean even = word.length() % 2 == 0;
            switch (name) {
                case "reverse" -> result.plus(reverse(word), number);
                case "negate" -> result.plus(word, number.negate());
                case "even" -> result.plus(word, even ? number : BigInteger.ZERO);
                case "odd" -> result.plus(word, even ? BigInteger.ZERO : number);
                default -> result.plus(word, lyndon(word) ? number : BigInteger.ZERO);
            }
        });
        return keep(target, result);
    }

    private int total() {
        return registers.stream().mapToInt(Poly::size).sum();
    }

    int saveSnapshot() {
        savedWords = words.clone();
        savedRegisters = new ArrayList<>(registers);
        return total();
    }

    int restoreSnapshot() {
        if (savedWords == null) {
            return -8;
        }
        words = savedWords.clone();
        registers = new ArrayList<>(savedRegisters);
        return total();
    }
}
