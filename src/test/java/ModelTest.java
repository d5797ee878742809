import java.util.List;

/** Long runs of calls, each answered by the program and by the model, and whole tables of words compared. */
public final class ModelTest {
    private static final int RUNS = 400;
    private static final int STEPS = 150;
    private static final String[] NAMES = {"reverse", "negate", "even", "odd", "lyndon"};

    private long seed;
    private final ShuffleAlgebra x = new ShuffleAlgebra();
    private final Model m = new Model();
    private final int run;

    private ModelTest(int run) {
        this.run = run;
        this.seed = 1000003L * run + 17;
    }

    public static void main(String[] args) {
        for (int run = 0; run < RUNS; run++) {
            new ModelTest(run).go();
        }
        allSmallTexts();
        allLyndonSteps();
        allBracketsAndBases();
        allFactors();
        allCounts();
        Check.finish();
    }

    // ---- random runs, the same ones each time

    private int below(int bound) {
        seed = seed * 6364136223846793005L + 1442695040888963407L;
        return (int) ((seed >>> 33) % bound);
    }

    /** Mostly one of the allowed numbers, sometimes one beside them. */
    private int number(int low, int high) {
        int kind = below(60);
        if (kind == 0) {
            return low - 1;
        }
        if (kind == 1) {
            return high + 1;
        }
        if (kind == 2) {
            return new int[] {Integer.MIN_VALUE, Integer.MAX_VALUE, -1, 127, 1 << 16}[below(5)];
        }
        return low + below(high - low + 1);
    }

    private int word() {
        return number(0, 2);
    }

    private int register() {
        return number(0, 4);
    }

    private int letter() {
        return number(0, 2);
    }

    private void go() {
        int style = below(4);
        for (int step = 0; step < STEPS; step++) {
            int kind = below(10);
            if (kind < 2) {
                typeAndParse(style);
            } else if (kind < 3) {
                newWord(style);
            } else if (kind < 6) {
                question();
            } else {
                change(style);
            }
            if (step % 5 == 0) {
                compare("step " + step);
            }
        }
    }

    private void compare(String where) {
        Check.due("run " + run + " " + where + ", state", Check.state(x), state());
    }

    private String state() {
        StringBuilder text = new StringBuilder();
        for (String word : m.words) {
            text.append(word).append(',');
        }
        for (Model.Poly poly : m.registers) {
            StringBuilder terms = new StringBuilder();
            poly.forEach((word, number) -> terms.append(number).append('*').append(word).append(' '));
            text.append('[').append(terms.toString().trim()).append(']');
        }
        return text.append(m.output).toString();
    }

    private void due(String call, long got, long want) {
        Check.due("run " + run + " " + call, got, want);
        if (want < 0 && below(4) == 0) {
            compare("after the error of " + call);
        }
    }

    private String randomWord(int maxLength) {
        StringBuilder word = new StringBuilder();
        int length = below(maxLength + 1);
        int kinds = 1 + below(3);
        for (int i = 0; i < length; i++) {
            word.append((char) ('a' + below(kinds)));
        }
        return word.toString();
    }

    private void newWord(int style) {
        int buffer = below(3);
        due("clearWord", x.clearWord(buffer), m.clearWord(buffer));
        for (char c : randomWord(style == 0 ? 8 : 5).toCharArray()) {
            due("appendLetter", x.appendLetter(buffer, c - 'a'), m.appendLetter(buffer, c - 'a'));
        }
    }

    private void typeAndParse(int style) {
        StringBuilder text = new StringBuilder();
        int terms = 1 + below(style == 1 ? 12 : 4);
        for (int i = 0; i < terms; i++) {
            text.append(i > 0 || below(2) == 0 ? below(2) == 0 ? "-" : "+" : "");
            String word = randomWord(style == 0 ? 8 : style == 1 ? 3 : 4);
            if (word.isEmpty() || below(2) == 0) {
                text.append(style == 3 ? below(2000000) : below(4));
            }
            text.append(word);
        }
        if (text.charAt(0) == '+' && below(20) != 0) {
            text.deleteCharAt(0);
        }
        if (below(12) == 0) {
            text.setCharAt(below(text.length()), "ab9+-dz ".charAt(below(8)));
        }
        type(text.toString());
        int target = register();
        due("parse of " + text, x.parsePolynomial(target), m.parsePolynomial(target));
    }

    private void type(String text) {
        for (char c : text.toCharArray()) {
            due("appendCharacter", x.appendCharacter(c), m.appendCharacter(c));
        }
    }

    private void question() {
        int u = word();
        int v = word();
        int w = word();
        int r = register();
        int s = register();
        int index = number(0, 8);
        switch (below(17)) {
            case 0 -> due("wordLength", x.wordLength(u), m.wordLength(u));
            case 1 -> due("wordLetter", x.wordLetter(u, index), m.wordLetter(u, index));
            case 2 -> due("subwordCount", x.subwordCount(u, w), m.subwordCount(u, w));
            case 3 -> due("splitCount", x.splitCount(u, v, w), m.splitCount(u, v, w));
            case 4 -> due("coverCount", x.coverCount(u, v, w), m.coverCount(u, v, w));
            case 5 -> due("isLyndon", x.isLyndon(u), m.isLyndon(u));
            case 6 -> due("factorCount", x.factorCount(u), m.factorCount(u));
            case 7 -> due("factorStart", x.factorStart(u, index), m.factorStart(u, index));
            case 8 -> due("lyndonCount", x.lyndonCount(index + 4), m.lyndonCount(index + 4));
            case 9 -> due("coefficient", x.coefficient(r, u), m.coefficient(r, u));
            case 10 -> due("termCount", x.termCount(r), m.termCount(r));
            case 11 -> due("termLength", x.termLength(r, index), m.termLength(r, index));
            case 12 -> due("termLetter", x.termLetter(r, index, u), m.termLetter(r, index, u));
            case 13 -> due("termCoefficient", x.termCoefficient(r, index), m.termCoefficient(r, index));
            case 14 -> due("pair", x.pair(r, s), m.pair(r, s));
            case 15 -> due("isLie", x.isLie(r), m.isLie(r));
            default -> due("outputCharacter", x.outputCharacter(index * 3), m.outputCharacter(index * 3));
        }
    }

    private void change(int style) {
        int u = word();
        int v = word();
        int r = register();
        int s = register();
        int t = register();
        int limit = style == 3 ? 1000000 : 4;
        int factor = style == 3 ? number(-1000, 1000) : number(-3, 3);
        int coefficient = below(9) == 0 ? number(-1000000, 1000000) : number(-limit, limit);
        switch (below(22)) {
            case 0 -> due("appendLetter", x.appendLetter(u, v), m.appendLetter(u, v));
            case 1 -> due("reverseWord", x.reverseWord(u, v), m.reverseWord(u, v));
            case 2 -> due("nextLyndon", x.nextLyndon(u, s + 2), m.nextLyndon(u, s + 2));
            case 3 -> due("nextLyndon", x.nextLyndon(u, s + 4), m.nextLyndon(u, s + 4));
            case 4 -> due("bracket", x.bracket(u, t), m.bracket(u, t));
            case 5 -> due("basis", x.basis(u, t), m.basis(u, t));
            case 6 -> due("addTerm", x.addTerm(r, u, coefficient), m.addTerm(r, u, coefficient));
            case 7 -> due("add", x.add(r, s, t), m.add(r, s, t));
            case 8 -> due("scale", x.scale(r, factor, t), m.scale(r, factor, t));
            case 9 -> due("antipode", x.antipode(r, t), m.antipode(r, t));
            case 10 -> residual(r, t);
            case 11 -> derive(r, t);
            case 12 -> due("coordinates", x.coordinates(r, t), m.coordinates(r, t));
            case 13 -> due("write", x.write(r), m.write(r));
            case 14 -> transform(r, t);
            case 15 -> snapshot();
            case 16 -> clear(u, r);
            case 17 -> appendCharacter();
            default -> multiply(number(0, 2), r, s, t);
        }
    }

    private void multiply(int kind, int r, int s, int t) {
        due("multiply " + kind, x.multiply(kind, r, s, t), m.multiply(kind, r, s, t));
    }

    private void residual(int r, int t) {
        int side = number(0, 1);
        int letter = letter();
        due("residual", x.residual(side, r, letter, t), m.residual(side, r, letter, t));
    }

    private void derive(int r, int t) {
        int letter = letter();
        due("derive", x.derive(r, letter, t), m.derive(r, letter, t));
    }

    private void transform(int r, int t) {
        type(below(15) == 0 ? "od" : NAMES[below(NAMES.length)]);
        due("transform", x.transform(r, t), m.transform(r, t));
    }

    private void snapshot() {
        if (below(2) == 0) {
            due("saveSnapshot", x.saveSnapshot(), m.saveSnapshot());
        } else {
            due("restoreSnapshot", x.restoreSnapshot(), m.restoreSnapshot());
        }
    }

    private void clear(int word, int register) {
        if (below(2) == 0) {
            due("clearWord", x.clearWord(word), m.clearWord(word));
        } else {
            due("clearPolynomial", x.clearPolynomial(register), m.clearPolynomial(register));
        }
    }

    private void appendCharacter() {
        int character = number(32, 126);
        due("appendCharacter", x.appendCharacter(character), m.appendCharacter(character));
    }

    // ---- whole tables

    private static void allSmallTexts() {
        String signs = "a1+-d";
        ShuffleAlgebra x = new ShuffleAlgebra();
        Model m = new Model();
        for (int length = 0; length <= 5; length++) {
            int texts = (int) Math.pow(signs.length(), length);
            for (int number = 0; number < texts; number++) {
                StringBuilder text = new StringBuilder();
                int rest = number;
                for (int i = 0; i < length; i++) {
                    text.append(signs.charAt(rest % signs.length()));
                    rest /= signs.length();
                }
                m.input = text.toString();
                Check.due("parse of " + text, Check.parse(x, text.toString(), 0), m.parsePolynomial(0));
                m.write(0);
                Check.due("writing of " + text, Check.written(x, 0), m.output);
            }
        }
    }

    private static void allLyndonSteps() {
        ShuffleAlgebra x = new ShuffleAlgebra();
        List<String> lyndon = Model.lyndonWords();
        for (int maxLength = 1; maxLength <= 8; maxLength++) {
            for (String word : Model.allWords(8)) {
                Check.setWord(x, 0, word);
                String next = word;
                for (int i = below(lyndon, word); i < lyndon.size(); i++) {
                    if (lyndon.get(i).length() <= maxLength) {
                        next = lyndon.get(i);
                        break;
                    }
                }
                int want = next.equals(word) ? ShuffleAlgebra.NONE : next.length();
                Check.due("nextLyndon of " + word + " up to " + maxLength, x.nextLyndon(0, maxLength), want);
                Check.due("nextLyndon of " + word + " up to " + maxLength, Check.word(x, 0), next);
            }
        }
    }

    /** The number of the first Lyndon word behind a word. */
    private static int below(List<String> lyndon, String word) {
        int low = 0;
        int high = lyndon.size();
        while (low < high) {
            int middle = (low + high) / 2;
            if (lyndon.get(middle).compareTo(word) > 0) {
                high = middle;
            } else {
                low = middle + 1;
            }
        }
        return low;
    }

    private static void allBracketsAndBases() {
        ShuffleAlgebra x = new ShuffleAlgebra();
        Model m = new Model();
        int number = 0;
        for (String word : Model.allWords(8)) {
            Check.setWord(x, 0, word);
            m.words[0] = word;
            Check.due("bracket of " + word, x.bracket(0, 0), m.bracket(0, 0));
            if (word.length() < 7 || number++ % 29 == 0) {
                Check.due("basis of " + word, x.basis(0, 1), m.basis(0, 1));
                Check.due("coordinates of that", x.coordinates(1, 2), m.coordinates(1, 2));
            }
            m.write(0);
            Check.due("bracket of " + word, Check.written(x, 0), m.output);
            m.write(1);
            Check.due("basis of " + word, Check.written(x, 1), m.output);
            m.write(2);
            Check.due("coordinates of that", Check.written(x, 2), m.output);
        }
    }

    private static void allFactors() {
        ShuffleAlgebra x = new ShuffleAlgebra();
        Model m = new Model();
        for (String word : Model.allWords(8)) {
            Check.setWord(x, 0, word);
            List<String> factors = Model.factors(word);
            Check.due("factorCount of " + word, x.factorCount(0), factors.size());
            Check.due("isLyndon of " + word, x.isLyndon(0), Model.lyndon(word) ? 1 : 0);
            int start = 0;
            for (int i = 0; i < factors.size(); i++) {
                Check.due("factorStart of " + word, x.factorStart(0, i), start);
                start += factors.get(i).length();
            }
            Check.due("factorStart of " + word, x.factorStart(0, factors.size()), ShuffleAlgebra.NONE);
        }
        for (int length = 0; length <= 13; length++) {
            Check.due("lyndonCount of " + length, x.lyndonCount(length), m.lyndonCount(length));
        }
    }

    private static void allCounts() {
        List<String> words = Model.allWords(4);
        ShuffleAlgebra x = new ShuffleAlgebra();
        Model m = new Model();
        for (int i = 0; i < words.size(); i += 3) {
            for (int j = 0; j < words.size(); j += 7) {
                Model.Poly shuffle = Model.shuffle(words.get(i), words.get(j));
                Model.Poly infiltration = Model.infiltration(words.get(i), words.get(j));
                for (String w : infiltration.keySet()) {
                    String[] three = {words.get(i), words.get(j), w};
                    for (int buffer = 0; buffer < 3; buffer++) {
                        Check.setWord(x, buffer, three[buffer]);
                        m.words[buffer] = three[buffer];
                    }
                    String call = String.join(" ", three);
                    boolean inShuffle = shuffle.containsKey(w);
                    Check.due("splitCount " + call, x.splitCount(0, 1, 2), inShuffle ? shuffle.get(w).intValue() : 0);
                    Check.due("coverCount " + call, x.coverCount(0, 1, 2), infiltration.get(w).intValue());
                    Check.due("subwordCount " + call, x.subwordCount(0, 2), m.subwordCount(0, 2));
                }
            }
        }
    }
}
