/** The constants, and promises 38 and 39: the snapshot. */
public final class SnapshotTest {
    private static final String BUSY = "aab,ba,c,[3* -1*ab 2*ba][1*a -1*b][-7* 1*ccc][5*c][-2*bac 1*cab]";

    public static void main(String[] args) {
        constants();
        promise38SaveSnapshot();
        promise38LaterChanges();
        promise39RestoreSnapshot();
        promise39InputAndOutput();
        Check.finish();
    }

    private static void constants() {
        Check.due("NO_SUCH_REGISTER", ShuffleAlgebra.NO_SUCH_REGISTER, -1);
        Check.due("NO_SUCH_WORD", ShuffleAlgebra.NO_SUCH_WORD, -2);
        Check.due("NO_SUCH_LETTER", ShuffleAlgebra.NO_SUCH_LETTER, -3);
        Check.due("BAD_VALUE", ShuffleAlgebra.BAD_VALUE, -4);
        Check.due("FULL", ShuffleAlgebra.FULL, -5);
        Check.due("TOO_LONG", ShuffleAlgebra.TOO_LONG, -6);
        Check.due("OVERFLOW", ShuffleAlgebra.OVERFLOW, -7);
        Check.due("NONE", ShuffleAlgebra.NONE, -8);
        Check.due("NOT_LYNDON", ShuffleAlgebra.NOT_LYNDON, -9);
        Check.due("NO_SUCH_NAME", ShuffleAlgebra.NO_SUCH_NAME, -10);
        Check.due("SYNTAX_ERROR", ShuffleAlgebra.SYNTAX_ERROR, -100);
        Check.due("NO_VALUE", ShuffleAlgebra.NO_VALUE, Long.MIN_VALUE);
        Check.due("CONCATENATION", ShuffleAlgebra.CONCATENATION, 0);
        Check.due("SHUFFLE", ShuffleAlgebra.SHUFFLE, 1);
        Check.due("INFILTRATION", ShuffleAlgebra.INFILTRATION, 2);
    }

    private static void clearAll(ShuffleAlgebra x) {
        for (int word = 0; word < 3; word++) {
            x.clearWord(word);
        }
        for (int register = 0; register < 5; register++) {
            x.clearPolynomial(register);
        }
    }

    /** Words and registers without the output. */
    private static String kept(ShuffleAlgebra x) {
        String state = Check.state(x);
        return state.substring(0, state.lastIndexOf(']') + 1);
    }

    private static void promise38SaveSnapshot() {
        ShuffleAlgebra x = new ShuffleAlgebra();
        Check.due("saveSnapshot of a new object", x.saveSnapshot(), 0);
        Check.due("restoreSnapshot of that", x.restoreSnapshot(), 0);
        x = Check.busy();
        Check.due("saveSnapshot", x.saveSnapshot(), 10);
        Check.due("state behind saveSnapshot", kept(x), BUSY);
        clearAll(x);
        Check.due("saveSnapshot in place of another", x.saveSnapshot(), 0);
        Check.setWord(x, 1, "abc");
        Check.due("restoreSnapshot of the later one", x.restoreSnapshot(), 0);
        Check.due("the state", kept(x), ",,,[][][][][]");
    }

    private static void promise38LaterChanges() {
        ShuffleAlgebra x = Check.busy();
        x.saveSnapshot();
        for (int register = 0; register < 5; register++) {
            x.addTerm(register, 2, 9);
            x.appendLetter(register % 3, 1);
        }
        x.multiply(1, 0, 1, 2);
        Check.due("restoreSnapshot behind changes", x.restoreSnapshot(), 10);
        Check.due("the state", kept(x), BUSY);
    }

    private static void promise39RestoreSnapshot() {
        ShuffleAlgebra x = Check.busy();
        String before = Check.state(x);
        Check.due("restoreSnapshot without a snapshot", x.restoreSnapshot(), ShuffleAlgebra.NONE);
        Check.due("state after the error", Check.state(x), before);
        x.saveSnapshot();
        for (int times = 0; times < 3; times++) {
            clearAll(x);
            x.appendLetter(0, 2);
            Check.parse(x, "a+b+c+aa", 3);
            Check.due("restoreSnapshot", x.restoreSnapshot(), 10);
            Check.due("the state", kept(x), BUSY);
            x.addTerm(3, 0, 1);
            x.appendLetter(1, 1);
        }
        Check.due("another object", new ShuffleAlgebra().restoreSnapshot(), ShuffleAlgebra.NONE);
    }

    private static void promise39InputAndOutput() {
        ShuffleAlgebra x = Check.busy();
        x.saveSnapshot();
        x.write(1);
        Check.due("the character behind two", x.appendCharacter('a'), 3);
        Check.due("restoreSnapshot", x.restoreSnapshot(), 10);
        Check.due("the output stays", Check.output(x), "a-b");
        Check.due("the input stays", x.parsePolynomial(0), 1);
        Check.due("the input stays", Check.polynomial(x, 0), "1*aba");
    }
}
