/** Promise 12: simplify. */
public final class Promise12SimplifyTest {
    public static void main(String[] args) {
        Due.test("Promise 12, nothing to undo", Promise12SimplifyTest::nothingToUndo);
        Due.test("Promise 12, slides are not done", Promise12SimplifyTest::noSlides);
        Due.test("Promise 12, an empty diagram", Promise12SimplifyTest::empty);
        Due.test("Promise 12, circles alone", Promise12SimplifyTest::circlesAlone);
        Due.test("Promise 12, everything goes", Promise12SimplifyTest::everythingGoes);
        Due.test("Promise 12, twenty crossings go", Promise12SimplifyTest::twentyGo);
        Due.test("Promise 12, how many crossings went", Promise12SimplifyTest::howMany);
        Due.test("Promise 12, as long as there is a face", Promise12SimplifyTest::asLongAsThereIsOne);
        Due.test("Promise 12, at the least face", Promise12SimplifyTest::leastFace);
        Due.test("Promise 12, the least face after each undo", Promise12SimplifyTest::leastFaceEachTime);
        Due.test("Promise 12, what was put in stays", Promise12SimplifyTest::whatWasPutIn);
        Due.test("Promise 12, like undo at the least face, over and over", Promise12SimplifyTest::likeUndo);
        Due.end();
    }

    private static void isSimplified(String what, int want, String crossings, int circles, DiagramMoves moves) {
        Due.is(what + ": simplify()", want, moves.simplify());
        Due.text(what + ": crossings", crossings, Examples.crossings(moves));
        Due.is(what + ": many(1)", circles, moves.many(1));
        Due.is(what + ": simplify() once more", 0, moves.simplify());
        Examples.isDiagram(what, moves);
    }

    private static void nothingToUndo() {
        int[][][] examples = {Examples.TREFOIL, Examples.HOPF, Examples.BORROMEAN};
        for (int[][] example : examples) {
            Refused.call("simplify()", 0, () -> Examples.holding(2, example), DiagramMoves::simplify);
        }
    }

    private static void noSlides() {
        Refused.call("three rings: simplify()", 0, () -> Examples.holding(2, Examples.THREE_RINGS),
                DiagramMoves::simplify);
    }

    private static void empty() {
        Refused.call("simplify()", 0, DiagramMoves::new, DiagramMoves::simplify);
        Refused.call("crossings put in: simplify()", 0, () -> Examples.holding(0), DiagramMoves::simplify);
    }

    private static void circlesAlone() {
        Refused.call("simplify()", 0, () -> Examples.holding(1), DiagramMoves::simplify);
        Refused.call("simplify()", 0, () -> Examples.holding(20), DiagramMoves::simplify);
    }

    private static void everythingGoes() {
        isSimplified("an eight", 1, "", 1, Examples.of(0, Examples.EIGHT));
        isSimplified("two rings", 2, "", 2, Examples.of(0, Examples.TWO_RINGS));
        isSimplified("a chain", 2, "", 4, Examples.of(3, Examples.CHAIN));
        isSimplified("a finger on itself", 2, "", 1, Examples.of(0, Examples.FINGER_ON_ITSELF));
        isSimplified("a ring on a kink", 3, "", 22, Examples.of(20, Examples.RING_ON_KINK));
    }

    private static void twentyGo() {
        isSimplified("one piece", 20, "", 1, Examples.twistedCircle(20));
        isSimplified("twenty pieces", 20, "", 40, Examples.of(20, Examples.eights(20)));
        int[][] rings = new int[20][];
        for (int n = 0; n < 20; n++) {
            int[] c = Examples.TWO_RINGS[n % 2];
            int more = n / 2 * 4;
            rings[n] = new int[] {c[0], c[1] + more, c[2] + more, c[3] + more, c[4] + more};
        }
        isSimplified("ten pieces, two rings each", 20, "", 20, Examples.of(0, rings));
    }

    private static void howMany() {
        String trefoil = "1:1,5,2,4 1:3,1,4,6 1:5,3,6,2";
        DiagramMoves moves = Examples.of(2, Examples.TREFOIL);
        Due.is("twist(6, -1, false)", true, moves.twist(6, -1, false));
        isSimplified("a kink", 1, trefoil, 2, moves);
        isSimplified("a ring", 2, trefoil, 3, Examples.of(2, Examples.RING_ON_TREFOIL));
        moves = Examples.of(2, Examples.RING_BELOW_TREFOIL);
        Due.is("twist(9, -1, false)", true, moves.twist(9, -1, false));
        isSimplified("a ring with a kink", 3, trefoil, 3, moves);
    }

    /** The finger's tip has a kink, and that one has one in turn. */
    private static void asLongAsThereIsOne() {
        DiagramMoves moves = Examples.of(0, Examples.TREFOIL);
        Due.is("push", true, moves.push(2, false, 6, false, true));
        Due.is("twist(7, 1, true)", true, moves.twist(7, 1, true));
        Due.is("twist(11, 1, true)", true, moves.twist(11, 1, true));
        Due.text("patterns", "0 0 0 0 0 2 0 0 1", Examples.patterns(moves));
        Due.is("simplify()", 4, moves.simplify());
        Due.is("many(0)", 3, moves.many(0));
        Examples.isDiagram("simplified", moves);
    }

    /** Undoing at other faces first would leave the trefoil as it was. */
    private static void leastFace() {
        DiagramMoves moves = Examples.of(0, Examples.TREFOIL);
        Due.is("push(2, false, 6, false, true)", true, moves.push(2, false, 6, false, true));
        Due.is("twist(7, -1, false)", true, moves.twist(7, -1, false));
        Due.text("faces", "1,-4 -1,-3,-5 2,10,4 -2,5,-8,9 3,-10,7,12,-6 6,8 -7,-9,-12,11 -11",
                Examples.faces(moves));
        isSimplified("a kink in a finger", 3, "1:1,5,2,4 1:3,1,4,10 1:5,3,10,2", 0, moves);
    }

    private static void leastFaceEachTime() {
        int[][] trefoil = {{1, 11, 15, 12, 14}, {1, 13, 11, 14, 16}, {1, 15, 13, 16, 12}};
        DiagramMoves moves = Examples.of(0, trefoil);
        Due.is("twist(11, -1, true)", true, moves.twist(11, -1, true));
        Due.text("face 0 is the loop", "1", Examples.face(moves, 0));
        isSimplified("the loop's label is the least", 1, "1:1,15,12,14 1:13,1,14,16 1:15,13,16,12", 0, moves);
    }

    private static void whatWasPutIn() {
        DiagramMoves moves = Examples.holding(0, Examples.RING_ON_KINK);
        Due.is("simplify()", 3, moves.simplify());
        Examples.stillHolds("simplify()", moves);
    }

    private static void likeUndo() {
        int[][][] examples = {Examples.EIGHT, Examples.TWO_RINGS, Examples.CHAIN, Examples.UNEVEN_CHAIN,
            Examples.RING_ON_KINK, Examples.FINGER_ON_ITSELF, Examples.RING_ON_TREFOIL, Examples.RING_BELOW_TREFOIL};
        for (int[][] example : examples) {
            DiagramMoves once = Examples.of(1, example);
            DiagramMoves bySteps = Examples.of(1, example);
            int went = 0;
            for (int face = 0; face < bySteps.many(3); face++) {
                int gone = bySteps.undo(face);
                went += gone;
                face = gone > 0 ? -1 : face;
            }
            Due.is("simplify()", went, once.simplify());
            Due.text("all", Examples.all(bySteps), Examples.all(once));
        }
    }
}
