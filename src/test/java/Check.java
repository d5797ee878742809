/** What the tests share: counting wrong answers, filling an object and looking at its whole state. */
final class Check {
    private static final int WORDS = 3;
    private static final int REGISTERS = 5;
    private static int checked = 0;
    private static int wrong = 0;
    private static String heading = "";

    private Check() {
    }

    /** What is printed before each wrong answer from now on. */
    static void under(String newHeading) {
        heading = newHeading;
    }

    static void due(String call, long got, long want) {
        checked++;
        if (got != want) {
            wrong++;
            System.out.println(heading + call + " answered " + got + ", due is " + want);
        }
    }

    static void due(String call, String got, String want) {
        checked++;
        if (!got.equals(want)) {
            wrong++;
            System.out.println(heading + call + " gave " + got + ", due is " + want);
        }
    }

    static void finish() {
        System.out.println(checked + " answers, " + wrong + " of them not as due");
        if (wrong != 0) {
            System.exit(1);
        }
    }

    static void setWord(ShuffleAlgebra x, int buffer, String word) {
        x.clearWord(buffer);
        for (char c : word.toCharArray()) {
            x.appendLetter(buffer, c - 'a');
        }
    }

    /** One of the 243 words of five letters, by its place in the dictionary. */
    static String fiveLetters(int number) {
        StringBuilder word = new StringBuilder();
        for (int power = 81; power > 0; power /= 3) {
            word.append((char) ('a' + number / power % 3));
        }
        return word.toString();
    }

    static void type(ShuffleAlgebra x, String text) {
        for (char c : text.toCharArray()) {
            x.appendCharacter(c);
        }
    }

    static int parse(ShuffleAlgebra x, String text, int register) {
        type(x, text);
        return x.parsePolynomial(register);
    }

    static ShuffleAlgebra withWords(String... words) {
        ShuffleAlgebra x = new ShuffleAlgebra();
        for (int i = 0; i < words.length; i++) {
            setWord(x, i, words[i]);
        }
        return x;
    }

    static ShuffleAlgebra withPolynomials(String... texts) {
        ShuffleAlgebra x = new ShuffleAlgebra();
        for (int i = 0; i < texts.length; i++) {
            if (parse(x, texts[i], i) < 0) {
                throw new IllegalArgumentException(texts[i]);
            }
        }
        return x;
    }

    static String word(ShuffleAlgebra x, int buffer) {
        StringBuilder word = new StringBuilder();
        for (int i = 0; i < x.wordLength(buffer); i++) {
            word.append((char) ('a' + x.wordLetter(buffer, i)));
        }
        return word.toString();
    }

    /** A register, read term by term, so that the output stays as it is. */
    static String polynomial(ShuffleAlgebra x, int register) {
        StringBuilder text = new StringBuilder();
        for (int i = 0; i < x.termCount(register); i++) {
            text.append(x.termCoefficient(register, i)).append('*');
            for (int j = 0; j < x.termLength(register, i); j++) {
                text.append((char) ('a' + x.termLetter(register, i, j)));
            }
            text.append(' ');
        }
        return text.toString().trim();
    }

    static String output(ShuffleAlgebra x) {
        StringBuilder text = new StringBuilder();
        for (int i = 0; x.outputCharacter(i) >= 0; i++) {
            text.append((char) x.outputCharacter(i));
        }
        return text.toString();
    }

    static String written(ShuffleAlgebra x, int register) {
        x.write(register);
        return output(x);
    }

    /** All that the questions of the face tell: words, registers and output, but not the input. */
    static String state(ShuffleAlgebra x) {
        StringBuilder text = new StringBuilder();
        for (int i = 0; i < WORDS; i++) {
            text.append(word(x, i)).append(',');
        }
        for (int i = 0; i < REGISTERS; i++) {
            text.append('[').append(polynomial(x, i)).append(']');
        }
        return text.append(output(x)).toString();
    }

    /** An object in which every buffer, register, the input and the output hold something. */
    static ShuffleAlgebra busy() {
        ShuffleAlgebra x = withPolynomials("3-ab+2ba", "a-b", "-7+ccc", "5c", "cab-2bac");
        setWord(x, 0, "aab");
        setWord(x, 1, "ba");
        setWord(x, 2, "c");
        x.write(0);
        type(x, "ab");
        return x;
    }

    /** The input can't be asked for; its length is what the next character tells. */
    static void dueInputLength(String call, ShuffleAlgebra x, int want) {
        due(call + ": characters in the input", x.appendCharacter('a') - 1, want);
    }
}
