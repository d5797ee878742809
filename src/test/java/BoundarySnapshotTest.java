/** Promises 38 and 39: the boundary cases that the document names for the snapshot, sentence by sentence. */
public final class BoundarySnapshotTest {
    private static final int NONE = ShuffleAlgebra.NONE;
    private static final int TERMS = 3 + 2 + 120 + 3 + 1;
    private static final int SAVED_TERMS = 2 + 2 + 1 + 1 + 2;
    private static final String SAVED = "cb,,abcabc,[1*b -2*c][1* 1*cc][3*aab][-1*a][2* -1*bb]";

    public static void main(String[] args) throws ReflectiveOperationException {
        Boundaries.run(BoundarySnapshotTest.class);
    }

    private static void clearAll(ShuffleAlgebra x) {
        for (int word = 0; word < 3; word++) {
            x.clearWord(word);
        }
        for (int register = 0; register < 5; register++) {
            x.clearPolynomial(register);
        }
    }

    /** Words and registers alone. */
    private static String kept(ShuffleAlgebra x) {
        String state = Check.state(x);
        return state.substring(0, state.lastIndexOf(']') + 1);
    }

    // ---- promise 38

    @Holds(in = "Promise 38", says = {"Saves the word buffers and the registers",
        "Returns the total number of terms of all registers"})
    static void saveSnapshotFromNoneToFull() {
        ShuffleAlgebra x = new ShuffleAlgebra();
        Check.due("saveSnapshot of a new object", x.saveSnapshot(), 0);
        Check.due("saveSnapshot", Boundaries.rich().saveSnapshot(), TERMS);
        for (int register = 0; register < 5; register++) {
            ShuffleAlgebra y = new ShuffleAlgebra();
            Check.parse(y, "1-b", register);
            Check.due("saveSnapshot with two terms", y.saveSnapshot(), 2);
        }
        Boundaries.fill(x, 0, 1);
        for (int register = 1; register < 5; register++) {
            x.scale(0, register + 1, register);
        }
        for (int word = 0; word < 3; word++) {
            Check.setWord(x, word, "abcabcab");
        }
        String before = Check.state(x);
        Check.due("saveSnapshot of full registers", x.saveSnapshot(), 600);
        Check.due("the state behind saveSnapshot", Check.state(x), before);
        clearAll(x);
        Check.due("restoreSnapshot of full registers", x.restoreSnapshot(), 600);
        Check.due("the state behind restoreSnapshot", Check.state(x), before);
    }

    @Holds(in = "Promise 38", says = "An earlier snapshot is replaced")
    static void saveSnapshotInPlaceOfAnother() {
        ShuffleAlgebra x = Boundaries.rich();
        String before = kept(x);
        Check.due("saveSnapshot in place of a smaller one", x.saveSnapshot(), TERMS);
        clearAll(x);
        Check.due("restoreSnapshot", x.restoreSnapshot(), TERMS);
        Check.due("the state", kept(x), before);
        clearAll(x);
        Check.due("saveSnapshot in place of a larger one", x.saveSnapshot(), 0);
        Check.setWord(x, 2, "abc");
        Check.parse(x, "a+b", 4);
        Check.due("restoreSnapshot", x.restoreSnapshot(), 0);
        Check.due("the state", kept(x), ",,,[][][][][]");
    }

    // ---- promise 39

    @Holds(in = "Promise 39", says = {"Restores the word buffers and the registers from the snapshot",
        "Returns the total number of terms of all registers"})
    static void restoreSnapshotFromNoneToFull() {
        ShuffleAlgebra x = Boundaries.rich();
        Check.due("restoreSnapshot", x.restoreSnapshot(), SAVED_TERMS);
        Check.due("the state", kept(x), SAVED);
        ShuffleAlgebra y = new ShuffleAlgebra();
        y.saveSnapshot();
        Boundaries.fill(y, 4, 3);
        Check.setWord(y, 0, "cccccccc");
        Check.due("restoreSnapshot of a new object's state", y.restoreSnapshot(), 0);
        Check.due("the state", kept(y), ",,,[][][][][]");
    }

    @Holds(in = "Promise 39", says = "The snapshot is kept")
    static void restoreSnapshotAgain() {
        ShuffleAlgebra x = Boundaries.rich();
        for (int times = 0; times < 3; times++) {
            Check.due("restoreSnapshot", x.restoreSnapshot(), SAVED_TERMS);
            Check.due("the state", kept(x), SAVED);
            Check.due("addTerm", x.addTerm(0, 0, 5), 3);
            Check.due("antipode to itself", x.antipode(3, 3), 1);
            Check.due("appendLetter", x.appendLetter(1, 2), 1);
            if (times == 1) {
                clearAll(x);
            }
        }
        Check.due("restoreSnapshot", x.restoreSnapshot(), SAVED_TERMS);
        Check.due("restoreSnapshot at once", x.restoreSnapshot(), SAVED_TERMS);
        Check.due("the state", kept(x), SAVED);
    }

    @Holds(in = "Promise 39", says = "NONE if no snapshot was saved")
    static void restoreSnapshotOfNone() {
        Check.due("restoreSnapshot of a new object", new ShuffleAlgebra().restoreSnapshot(), NONE);
        Boundaries.unchanged("restoreSnapshot without one", Check::busy, x -> x.restoreSnapshot(), NONE);
        ShuffleAlgebra x = Check.busy();
        x.restoreSnapshot();
        Check.due("restoreSnapshot again", x.restoreSnapshot(), NONE);
        x.saveSnapshot();
        Check.due("restoreSnapshot when there is one", x.restoreSnapshot(), 10);
    }
}
