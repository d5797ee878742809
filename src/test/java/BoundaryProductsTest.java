/** Promises 24 to 26: the boundary cases that the document names for sums and products, sentence by sentence. */
public final class BoundaryProductsTest {
    private static final int NO_SUCH_REGISTER = ShuffleAlgebra.NO_SUCH_REGISTER;
    private static final int BAD_VALUE = ShuffleAlgebra.BAD_VALUE;
    private static final int FULL = ShuffleAlgebra.FULL;
    private static final int TOO_LONG = ShuffleAlgebra.TOO_LONG;
    private static final int OVERFLOW = ShuffleAlgebra.OVERFLOW;
    private static final int CONCATENATION = ShuffleAlgebra.CONCATENATION;
    private static final int SHUFFLE = ShuffleAlgebra.SHUFFLE;
    private static final int INFILTRATION = ShuffleAlgebra.INFILTRATION;
    private static final int[] NO_KINDS = {-1, 3, 256, 65536, Integer.MIN_VALUE, Integer.MAX_VALUE};
    private static final int[] NO_FACTORS = {1001, -1001, 1 << 16, Integer.MIN_VALUE, Integer.MAX_VALUE};
    private static final String ELEVEN = "a+b+c+aa+ab+ac+ba+bb+bc+ca+cb";
    private static final String ELEVEN_LONGER = "aaa+aab+aac+aba+abb+abc+aca+acb+acc+baa+bab";

    public static void main(String[] args) throws ReflectiveOperationException {
        Boundaries.run(BoundaryProductsTest.class);
    }

    /** These polynomials in the registers from 0, and 120 terms in register 4. */
    private static ShuffleAlgebra withFull(String... polynomials) {
        ShuffleAlgebra x = new ShuffleAlgebra();
        Boundaries.fill(x, 4, 0);
        for (int i = 0; i < polynomials.length; i++) {
            Check.parse(x, polynomials[i], i);
        }
        return x;
    }

    // ---- promise 24

    @Holds(in = "Promise 24", says = {"Adds two polynomials", "Returns the number of terms of the sum"})
    static void addFromNoneToFull() {
        Boundaries.result("add of 0 and 0", x -> x.add(0, 1, 4), "0", "0", "0");
        Boundaries.result("add of 0 and 1", x -> x.add(0, 1, 4), "1", "0", "1");
        Boundaries.result("add that cancels", x -> x.add(0, 1, 4), "0", "1-cccccccc", "-1+cccccccc");
        Boundaries.result("add at both ends", x -> x.add(0, 1, 4), "1+cccccccc", "1", "cccccccc");
        ShuffleAlgebra x = withFull();
        Check.due("add of 120 terms to 0", x.add(4, 3, 2), 120);
        Check.due("add of 120 terms to themselves", x.add(4, 2, 3), 120);
        Check.due("the first coefficient", x.termCoefficient(3, 0), 2);
        Check.due("the last coefficient", x.termCoefficient(3, 119), 2);
    }

    @Holds(in = "Promise 24", says = {"register: the first register, 0 to 4", "other: the second register, 0 to 4",
        "target: the register that gets the sum, 0 to 4", "it may be one of the others"})
    static void addOfAllRegisters() {
        String[] polynomials = {"a", "2b", "3c", "4aa", "5bb"};
        for (int register = 0; register < 5; register++) {
            for (int other = 0; other < 5; other++) {
                for (int target = 0; target < 5; target++) {
                    ShuffleAlgebra x = Check.withPolynomials(polynomials);
                    String[] want = polynomials.clone();
                    String low = polynomials[Math.min(register, other)];
                    want[target] = register == other ? 2 * (register + 1) + low.substring(register == 0 ? 0 : 1)
                            : low + "+" + polynomials[Math.max(register, other)];
                    String name = "add(" + register + ", " + other + ", " + target + ")";
                    Check.due(name, x.add(register, other, target), register == other ? 1 : 2);
                    for (int i = 0; i < 5; i++) {
                        Check.due("register " + i + " behind " + name, Check.written(x, i), want[i]);
                    }
                }
            }
        }
    }

    @Holds(in = "Promise 24", says = "NO_SUCH_REGISTER if a register does not exist (checked first)")
    static void addOfNoRegister() {
        for (int wrong : Boundaries.NO_REGISTERS) {
            Boundaries.unchanged("add(" + wrong + ", 0, 0)", x -> x.add(wrong, 0, 0), NO_SUCH_REGISTER);
            Boundaries.unchanged("add(0, " + wrong + ", 0)", x -> x.add(0, wrong, 0), NO_SUCH_REGISTER);
            Boundaries.unchanged("add(0, 0, " + wrong + ")", x -> x.add(0, 0, wrong), NO_SUCH_REGISTER);
            Boundaries.unchanged("no register and no range", x -> x.add(1, 1, wrong), NO_SUCH_REGISTER);
            Boundaries.unchanged("no register and no room", x -> x.add(0, 2, wrong), NO_SUCH_REGISTER);
        }
    }

    @Holds(in = "Promise 24", says = "OVERFLOW if a coefficient of the result is out of range (checked second)")
    static void addToTheRange() {
        Boundaries.result("add up to the range", x -> x.add(0, 1, 4), "1000000a-1000000b", "500000a-999999b", "500000a-b");
        for (String one : new String[] {"a", "-b"}) {
            Boundaries.unchanged("add behind the range", () -> Check.withPolynomials("1000000a-1000000b", one, "7c"),
                    x -> x.add(0, 1, 2), OVERFLOW);
            Boundaries.unchanged("add behind the range to itself", () -> Check.withPolynomials("1000000a-1000000b", one),
                    x -> x.add(0, 1, 0), OVERFLOW);
        }
        Boundaries.unchanged("add(1, 1, 4)", x -> x.add(1, 1, 4), OVERFLOW);
        Boundaries.unchanged("no range and no room", () -> withFull("1+1000000aaaa", "b"), x -> x.add(0, 4, 1), OVERFLOW);
        Boundaries.unchanged("no range and no room", () -> withFull("1+1000000ccbaa", "b"), x -> x.add(4, 0, 1), OVERFLOW);
    }

    @Holds(in = "Promise 24", says = "FULL if the result has more than 120 terms")
    static void addToTheRoom() {
        ShuffleAlgebra x = withFull("-aaaa+cccc", "aaaa+ccbaa", "1");
        Check.due("add with a term in place of another", x.add(4, 0, 3), 120);
        Check.due("add with terms that are there", x.add(4, 1, 3), 120);
        String[] more = {"1", "cccccccc", "cccc", "-aaaa+bbbb+cccc"};
        for (String polynomial : more) {
            for (int target = 0; target < 5; target++) {
                int register = target;
                Boundaries.unchanged("add of 120 and " + polynomial, () -> withFull(polynomial), y -> y.add(4, 0, register), FULL);
                Boundaries.unchanged("add of " + polynomial + " and 120", () -> withFull(polynomial), y -> y.add(0, 4, register),
                        FULL);
            }
        }
    }

    // ---- promise 25

    @Holds(in = "Promise 25", says = {"Multiplies a polynomial by a number", "Returns the number of terms of the result"})
    static void scaleFromNoneToFull() {
        Boundaries.result("scale of 0", x -> x.scale(0, 1000, 4), "0", "0");
        Boundaries.result("scale by 0", x -> x.scale(0, 0, 4), "0", "1000000-a");
        Boundaries.result("scale by 1", x -> x.scale(0, 1, 4), "-1000000+1000000cccccccc", "-1000000+1000000cccccccc");
        Boundaries.result("scale by -1", x -> x.scale(0, -1, 4), "1000000-1000000cccccccc", "-1000000+1000000cccccccc");
        ShuffleAlgebra x = withFull();
        Check.due("scale of 120 terms", x.scale(4, -7, 4), 120);
        Check.due("the last coefficient", x.termCoefficient(4, 119), -7);
        Check.due("scale of 120 terms by 0", x.scale(4, 0, 4), 0);
    }

    @Holds(in = "Promise 25", says = {"register: the register, 0 to 4", "target: the register that gets the result, 0 to 4",
        "it may be the source", "NO_SUCH_REGISTER if a register does not exist (checked first)"})
    static void scaleOfNoRegister() {
        String[] polynomials = {"a", "2b", "3c", "4aa", "5bb"};
        String[] doubled = {"2a", "4b", "6c", "8aa", "10bb"};
        for (int register = 0; register < 5; register++) {
            for (int target = 0; target < 5; target++) {
                ShuffleAlgebra x = Check.withPolynomials(polynomials);
                Check.due("scale(" + register + ", 2, " + target + ")", x.scale(register, 2, target), 1);
                for (int i = 0; i < 5; i++) {
                    Check.due("register " + i, Check.written(x, i), i == target ? doubled[register] : polynomials[i]);
                }
            }
        }
        for (int wrong : Boundaries.NO_REGISTERS) {
            Boundaries.unchanged("scale(" + wrong + ", 1, 0)", x -> x.scale(wrong, 1, 0), NO_SUCH_REGISTER);
            Boundaries.unchanged("scale(0, 1, " + wrong + ")", x -> x.scale(0, 1, wrong), NO_SUCH_REGISTER);
            Boundaries.unchanged("no target and no range", x -> x.scale(1, 2, wrong), NO_SUCH_REGISTER);
            for (int factor : NO_FACTORS) {
                Boundaries.unchanged("no register and no factor", x -> x.scale(wrong, factor, 0), NO_SUCH_REGISTER);
                Boundaries.unchanged("no target and no factor", x -> x.scale(0, factor, wrong), NO_SUCH_REGISTER);
            }
        }
    }

    @Holds(in = "Promise 25", says = {"factor: the number, -1000 to 1000", "BAD_VALUE if factor is out of range (checked second)"})
    static void scaleByNoFactor() {
        Boundaries.result("scale by 1000", x -> x.scale(0, 1000, 4), "1000-7000a", "1-7a");
        Boundaries.result("scale by -1000", x -> x.scale(0, -1000, 4), "-1000+7000a", "1-7a");
        for (int wrong : NO_FACTORS) {
            Boundaries.unchanged("scale(0, " + wrong + ", 4)", x -> x.scale(0, wrong, 4), BAD_VALUE);
            Boundaries.unchanged("no factor and no range", x -> x.scale(1, wrong, 1), BAD_VALUE);
            Boundaries.unchanged("no factor for the polynomial 0", ShuffleAlgebra::new, x -> x.scale(0, wrong, 1), BAD_VALUE);
        }
    }

    @Holds(in = "Promise 25", says = "OVERFLOW if a coefficient of the result is out of range")
    static void scaleToTheRange() {
        Boundaries.result("scale up to the range", x -> x.scale(0, 1000, 4), "1000000-1000000cc", "1000-1000cc");
        Boundaries.result("scale up to the range", x -> x.scale(0, -2, 4), "-1000000+1000000cc", "500000-500000cc");
        for (String out : new String[] {"1001", "-1001", "a+1001cccccccc", "1000000", "1000a-1001b"}) {
            for (int sign = -1; sign <= 1; sign += 2) {
                int factor = sign * 1000;
                Boundaries.unchanged("scale of " + out, () -> Check.withPolynomials(out, "7c"), x -> x.scale(0, factor, 1),
                        OVERFLOW);
                Boundaries.unchanged("scale of " + out + " to itself", () -> Check.withPolynomials(out, "7c"),
                        x -> x.scale(0, factor, 0), OVERFLOW);
            }
        }
        Boundaries.unchanged("scale(1, 2, 4)", x -> x.scale(1, 2, 4), OVERFLOW);
    }

    // ---- promise 26

    @Holds(in = "Promise 26", says = {"Multiplies two polynomials", "Returns the number of terms of the product"})
    static void multiplyFromNoneToFull() {
        String[] kinds = {"concatenation", "shuffle", "infiltration"};
        for (int i = 0; i < kinds.length; i++) {
            int kind = i;
            Boundaries.result(kinds[kind] + " of 0 and 0", x -> x.multiply(kind, 0, 1, 4), "0", "0", "0");
            Boundaries.result(kinds[kind] + " of 1 and 1", x -> x.multiply(kind, 0, 1, 4), "1", "1", "1");
            Boundaries.result(kinds[kind] + " of -1 and a word", x -> x.multiply(kind, 0, 1, 4), "-cbacbacb", "-1", "cbacbacb");
            Boundaries.result(kinds[kind] + " of a word and -1", x -> x.multiply(kind, 0, 1, 4), "-cbacbacb", "cbacbacb", "-1");
            Boundaries.unchanged(kinds[kind] + " of 120 terms and 1", () -> withFull("1"), x -> x.multiply(kind, 4, 0, 4), 120);
            Boundaries.unchanged(kinds[kind] + " of 1 and 120 terms", () -> withFull("1"), x -> x.multiply(kind, 0, 4, 4), 120);
        }
        Boundaries.result("a product with terms that cancel", x -> x.multiply(CONCATENATION, 0, 1, 4), "1-aa", "1+a", "1-a");
        Boundaries.result("a shuffle that isn't 0", x -> x.multiply(SHUFFLE, 0, 1, 4), "1-2aa", "1+a", "1-a");
        Boundaries.result("an overlap that cancels", x -> x.multiply(INFILTRATION, 0, 1, 4), "1-a-2aa", "1+a", "1-a");
    }

    @Holds(in = "Promise 26", says = {"kind: CONCATENATION, SHUFFLE or INFILTRATION",
        "BAD_VALUE if kind is none of the three (checked first)"})
    static void multiplyOfNoKind() {
        Boundaries.result("kind 0", x -> x.multiply(0, 0, 1, 4), "aa", "a", "a");
        Boundaries.result("kind 1", x -> x.multiply(1, 0, 1, 4), "2aa", "a", "a");
        Boundaries.result("kind 2", x -> x.multiply(2, 0, 1, 4), "a+2aa", "a", "a");
        for (int wrong : NO_KINDS) {
            Boundaries.unchanged("multiply(" + wrong + ", 4, 4, 0)", x -> x.multiply(wrong, 4, 4, 0), BAD_VALUE);
            Boundaries.unchanged("no kind and no first", x -> x.multiply(wrong, 5, 0, 0), BAD_VALUE);
            Boundaries.unchanged("no kind and no second", x -> x.multiply(wrong, 0, -1, 0), BAD_VALUE);
            Boundaries.unchanged("no kind and no target", x -> x.multiply(wrong, 0, 0, 5), BAD_VALUE);
            Boundaries.unchanged("no kind and too long", x -> x.multiply(wrong, 3, 3, 0), BAD_VALUE);
            Boundaries.unchanged("no kind and no range", x -> x.multiply(wrong, 1, 1, 0), BAD_VALUE);
            Boundaries.unchanged("no kind of 0", ShuffleAlgebra::new, x -> x.multiply(wrong, 0, 0, 0), BAD_VALUE);
        }
    }

    @Holds(in = "Promise 26", says = {"register: the first register, 0 to 4", "other: the second register, 0 to 4",
        "target: the register that gets the product, 0 to 4", "it may be one of the others"})
    static void multiplyOfAllRegisters() {
        String[] polynomials = {"a", "b", "c", "aa", "bb"};
        for (int register = 0; register < 5; register++) {
            for (int other = 0; other < 5; other++) {
                for (int target = 0; target < 5; target++) {
                    ShuffleAlgebra x = Check.withPolynomials(polynomials);
                    String name = "multiply(0, " + register + ", " + other + ", " + target + ")";
                    Check.due(name, x.multiply(CONCATENATION, register, other, target), 1);
                    for (int i = 0; i < 5; i++) {
                        String want = i == target ? polynomials[register] + polynomials[other] : polynomials[i];
                        Check.due("register " + i + " behind " + name, Check.written(x, i), want);
                    }
                }
            }
        }
        ShuffleAlgebra x = Check.withPolynomials("1+a");
        Check.due("a shuffle square in its place", x.multiply(SHUFFLE, 0, 0, 0), 3);
        Check.due("the square", Check.written(x, 0), "1+2a+2aa");
        Check.due("an infiltration square in its place", x.multiply(INFILTRATION, 0, 0, 0), 5);
        Check.due("the square", Check.written(x, 0), "1+8a+32aa+48aaa+24aaaa");
    }

    @Holds(in = "Promise 26", says = "NO_SUCH_REGISTER if a register does not exist (checked second)")
    static void multiplyOfNoRegister() {
        for (int wrong : Boundaries.NO_REGISTERS) {
            for (int i = 0; i < 3; i++) {
                int kind = i;
                Boundaries.unchanged("multiply without first", x -> x.multiply(kind, wrong, 4, 4), NO_SUCH_REGISTER);
                Boundaries.unchanged("multiply without second", x -> x.multiply(kind, 4, wrong, 4), NO_SUCH_REGISTER);
                Boundaries.unchanged("multiply without target", x -> x.multiply(kind, 4, 4, wrong), NO_SUCH_REGISTER);
                Boundaries.unchanged("no target and too long", x -> x.multiply(kind, 3, 3, wrong), NO_SUCH_REGISTER);
                Boundaries.unchanged("no target and no range", x -> x.multiply(kind, 1, 1, wrong), NO_SUCH_REGISTER);
                Boundaries.unchanged("no target and no room", x -> x.multiply(kind, 0, 2, wrong), NO_SUCH_REGISTER);
            }
        }
    }

    @Holds(in = "Promise 26", says = "TOO_LONG if a word of the first and a word of the second polynomial have more than 8"
            + " letters together (checked third)")
    static void multiplyToEightLetters() {
        String[] words = {"1", "a", "aa", "aaa", "aaaa", "aaaaa", "aaaaaa", "aaaaaaa", "aaaaaaaa"};
        for (int kind = 0; kind < 3; kind++) {
            for (int u = 0; u <= 8; u++) {
                for (int v = 0; v <= 8; v++) {
                    ShuffleAlgebra x = Check.withPolynomials(words[u], words[v]);
                    int product = x.multiply(kind, 0, 1, 2);
                    boolean fits = u + v <= 8;
                    int want = !fits ? TOO_LONG : kind == INFILTRATION ? Math.min(u, v) + 1 : 1;
                    Check.due("multiply " + kind + " of " + u + " and " + v + " letters", product, want);
                    Check.due("the longest word", x.termLength(2, x.termCount(2) - 1), fits ? u + v : ShuffleAlgebra.NONE);
                }
            }
        }
        for (int i = 0; i < 3; i++) {
            int kind = i;
            Boundaries.unchanged("the longest words, not the first", () -> Check.withPolynomials("1+aaaa", "1+b+ccccc", "c"),
                    x -> x.multiply(kind, 0, 1, 2), TOO_LONG);
            Boundaries.unchanged("too long, and no range", () -> Check.withPolynomials("1001+aaaa", "1000+ccccc", "c"),
                    x -> x.multiply(kind, 0, 1, 2), TOO_LONG);
            Boundaries.unchanged("too long, and no room", x -> x.multiply(kind, 2, 2, 4), TOO_LONG);
            Boundaries.unchanged("too long for itself", x -> x.multiply(kind, 3, 3, 3), TOO_LONG);
        }
    }

    @Holds(in = "Promise 26", says = "OVERFLOW if a coefficient of the result is out of range (checked fourth)")
    static void multiplyToTheRange() {
        String[] ends = {"1000000aa", "1000000aa", "500000a+1000000aa"};
        for (int sign = -1; sign <= 1; sign += 2) {
            String minus = sign < 0 ? "-" : "";
            for (int i = 0; i < 3; i++) {
                int kind = i;
                String second = minus + (kind == CONCATENATION ? "1000a" : "500a");
                String want = sign < 0 ? "-" + ends[kind].replace('+', '-') : ends[kind];
                Boundaries.result("multiply " + kind + " up to the range", x -> x.multiply(kind, 0, 1, 4), want, "1000a", second);
                String behind = minus + (kind == CONCATENATION ? "1001a" : "501a");
                Boundaries.unchanged("multiply " + kind + " behind the range", () -> Check.withPolynomials("1000a", behind, "c"),
                        x -> x.multiply(kind, 0, 1, 2), OVERFLOW);
            }
        }
        for (int i = 0; i < 3; i++) {
            int kind = i;
            Boundaries.unchanged("65536 times 65536", () -> Check.withPolynomials("65536a", "65536b", "c"),
                    x -> x.multiply(kind, 0, 1, 2), OVERFLOW);
            Boundaries.unchanged("1000000 times -1000000", () -> Check.withPolynomials("1000000", "-1000000", "c"),
                    x -> x.multiply(kind, 0, 1, 1), OVERFLOW);
            Boundaries.unchanged("no room", () -> withTwo("500000+c"), x -> x.multiply(kind, 4, 0, 2), FULL);
            Boundaries.unchanged("no range and no room", () -> withTwo("500001+c"), x -> x.multiply(kind, 4, 0, 2), OVERFLOW);
        }
    }

    /** A polynomial, and 120 terms of which one has the coefficient 2. */
    private static ShuffleAlgebra withTwo(String polynomial) {
        ShuffleAlgebra x = withFull(polynomial);
        Check.setWord(x, 0, "aaaa");
        x.addTerm(4, 0, 1);
        return x;
    }

    @Holds(in = "Promise 26", says = "FULL if the result has more than 120 terms")
    static void multiplyToTheRoom() {
        ShuffleAlgebra x = Check.withPolynomials("aaaa", "bb+bbb+bbbb", "a+b+aaaa", "bbb+cccc");
        Check.due("a shuffle with 120 terms", x.multiply(SHUFFLE, 0, 1, 4), 120);
        Check.due("an infiltration with 120 terms", x.multiply(INFILTRATION, 1, 0, 4), 120);
        Check.due("another shuffle with 120 terms", x.multiply(SHUFFLE, 2, 3, 4), 120);
        for (int i = 0; i < 5; i++) {
            int target = i;
            Boundaries.unchanged("a concatenation with 121 terms", () -> Check.withPolynomials(ELEVEN, ELEVEN_LONGER, "1"),
                    y -> y.multiply(CONCATENATION, 0, 1, target), FULL);
            Boundaries.unchanged("a shuffle with 121 terms", () -> Check.withPolynomials("aaaa", "1+bb+bbb+bbbb", "1"),
                    y -> y.multiply(SHUFFLE, 0, 1, target), FULL);
            Boundaries.unchanged("an infiltration with 121 terms", () -> Check.withPolynomials("aaaa", "1+bb+bbb+bbbb", "1"),
                    y -> y.multiply(INFILTRATION, 1, 0, target), FULL);
            Boundaries.unchanged("120 terms and one by an overlap", () -> Check.withPolynomials("a+b+aaaa", "bbb+cccc", "1"),
                    y -> y.multiply(INFILTRATION, 0, 1, target), FULL);
        }
    }
}
