/** Promise 8: undo. */
public final class Promise08UndoTest {
    private static final String TREFOIL = "1:1,5,2,4 1:3,1,4,6 1:5,3,6,2";

    public static void main(String[] args) {
        Due.test("Promise 8, one dart: one crossing goes", Promise08UndoTest::oneGoes);
        Due.test("Promise 8, one dart: the lesser label is kept", Promise08UndoTest::lesserLabel);
        Due.test("Promise 8, one dart: each kind of kink", Promise08UndoTest::kindsOfKinks);
        Due.test("Promise 8, one dart: wherever the crossing stands", Promise08UndoTest::anywhereInTheRow);
        Due.test("Promise 8, one dart: an edge one with itself is a circle more", Promise08UndoTest::kinkToCircle);
        Due.test("Promise 8, two darts: two crossings go", Promise08UndoTest::twoGo);
        Due.test("Promise 8, two darts: an edge one with itself is a circle more", Promise08UndoTest::ringToCircle);
        Due.test("Promise 8, two darts: both edges, two circles more", Promise08UndoTest::twoRings);
        Due.test("Promise 8, two darts: one strand with itself, one circle more", Promise08UndoTest::withItself);
        Due.test("Promise 8, two darts: wherever the crossings stand", Promise08UndoTest::twoAnywhereInTheRow);
        Due.test("Promise 8, circles above what check takes", Promise08UndoTest::manyCircles);
        Due.test("Promise 8, the first and the last face", Promise08UndoTest::firstAndLastFace);
        Due.test("Promise 8, twenty crossings", Promise08UndoTest::twentyCrossings);
        Due.test("Promise 8, what was put in stays", Promise08UndoTest::whatWasPutIn);
        Due.test("Promise 8, 0: two darts, edges mixed", Promise08UndoTest::twoMixed);
        Due.test("Promise 8, 0: two darts at one crossing", Promise08UndoTest::twoAtOne);
        Due.test("Promise 8, 0: three darts", Promise08UndoTest::threeDarts);
        Due.test("Promise 8, 0: four darts", Promise08UndoTest::fourDarts);
        Due.test("Promise 8, 0: no such face", Promise08UndoTest::noSuchFace);
        Due.test("Promise 8, 0: nothing but circles", Promise08UndoTest::circlesAlone);
        Due.end();
    }

    private static void undoes(String what, int want, DiagramMoves moves, int dart) {
        int face = Examples.faceWith(moves, dart);
        Due.is(what + ": undo(" + face + ")", want, moves.undo(face));
        Examples.isDiagram(what, moves);
    }

    private static void isRefused(int face, int[]... crossings) {
        Refused.call("undo(" + face + ")", 0, () -> Examples.holding(2, crossings), m -> m.undo(face));
    }

    private static void oneGoes() {
        DiagramMoves moves = Examples.of(0, Examples.CHAIN);
        Due.is("undo(1)", 1, moves.undo(1));
        Due.text("crossings", "1:1,1,5,5", Examples.crossings(moves));
        Due.text("faces", "1,-5 -1 5", Examples.faces(moves));
        Due.is("many(1)", 0, moves.many(1));
    }

    /** A trefoil whose edge between the crossings 1 and 0 has a kink. */
    private static int[][] kinked(int first, int loop, int last) {
        return new int[][] {{1, last, 5, 2, 4}, {1, 3, first, 4, 6}, {1, 5, 3, 6, 2}, {1, loop, loop, last, first}};
    }

    private static void lesserLabel() {
        int[][] labels = {{1, 7, 8}, {1, 8, 7}, {7, 1, 8}, {8, 1, 7}, {7, 8, 1}, {8, 7, 1}};
        for (int[] three : labels) {
            DiagramMoves moves = Examples.of(0, kinked(three[0], three[1], three[2]));
            undoes("1, 7, 8", 1, moves, -three[1]);
            Due.text("crossings", TREFOIL, Examples.crossings(moves));
        }
        DiagramMoves moves = Examples.of(0, kinked(9999, 9998, 9997));
        undoes("9999, 9998, 9997", 1, moves, -9998);
        Due.text("crossings", "1:9997,5,2,4 1:3,9997,4,6 1:5,3,6,2", Examples.crossings(moves));
    }

    private static void kindsOfKinks() {
        for (int kind = 0; kind < 4; kind++) {
            DiagramMoves moves = Examples.of(3, Examples.TREFOIL);
            int sign = (kind & 1) == 0 ? 1 : -1;
            boolean above = (kind & 2) == 0;
            Due.is("twist(1, ..)", true, moves.twist(1, sign, above));
            undoes("sign " + sign + ", above " + above, 1, moves, above == (sign == 1) ? -7 : 7);
            Due.text("as it was", Examples.all(Examples.of(3, Examples.TREFOIL)), Examples.all(moves));
        }
    }

    private static void anywhereInTheRow() {
        int[][] r = kinked(1, 7, 8);
        standsAnywhere("first", "1:5,3,6,2 1:1,5,2,4 1:3,1,4,6", r[3], r[2], r[0], r[1]);
        standsAnywhere("second", "1:3,1,4,6 1:5,3,6,2 1:1,5,2,4", r[1], r[3], r[2], r[0]);
        standsAnywhere("third", "1:1,5,2,4 1:3,1,4,6 1:5,3,6,2", r[0], r[1], r[3], r[2]);
        standsAnywhere("last", "1:1,5,2,4 1:5,3,6,2 1:3,1,4,6", r[0], r[2], r[1], r[3]);
    }

    private static void standsAnywhere(String where, String othersInOrder, int[]... crossings) {
        DiagramMoves moves = Examples.of(0, crossings);
        undoes(where, 1, moves, -7);
        Due.text(where + ": the others", othersInOrder, Examples.crossings(moves));
    }

    private static void kinkToCircle() {
        for (int face = 0; face <= 2; face += 2) {
            DiagramMoves moves = Examples.of(0, Examples.EIGHT);
            Due.is("undo(" + face + ")", 1, moves.undo(face));
            Due.text("as a circle alone", Examples.all(Examples.of(1)), Examples.all(moves));
        }
        DiagramMoves moves = Examples.of(0, Examples.eights(2));
        Due.is("undo(0)", 1, moves.undo(0));
        Due.text("the other one", "1:4,4,3,3", Examples.crossings(moves));
        Due.is("many(1)", 1, moves.many(1));
    }

    private static void twoGo() {
        DiagramMoves moves = Examples.of(0, Examples.THREE_RINGS);
        Due.is("push(4, true, 12, true, true)", true, moves.push(4, true, 12, true, true));
        undoes("three rings", 2, moves, 13);
        Due.text("as it was", Examples.all(Examples.of(0, Examples.THREE_RINGS)), Examples.all(moves));
    }

    private static void ringToCircle() {
        int[] darts = {7, -7};
        for (int dart : darts) {
            DiagramMoves moves = Examples.of(3, Examples.RING_ON_TREFOIL);
            undoes("a ring on a trefoil", 2, moves, dart);
            Due.text("trefoil", TREFOIL, Examples.crossings(moves));
            Due.is("one circle more", 4, moves.many(1));
        }
    }

    private static void twoRings() {
        for (int face = 0; face < 4; face++) {
            DiagramMoves moves = Examples.of(3, Examples.TWO_RINGS);
            Due.is("undo(" + face + ")", 2, moves.undo(face));
            Due.text("as circles alone", Examples.all(Examples.of(5)), Examples.all(moves));
        }
    }

    private static void withItself() {
        DiagramMoves moves = Examples.of(0, Examples.FINGER_ON_ITSELF);
        Due.is("undo(0)", 2, moves.undo(0));
        Due.text("as a circle alone", Examples.all(Examples.of(1)), Examples.all(moves));
    }

    private static void twoAnywhereInTheRow() {
        int[] darts = {7, -7};
        for (int dart : darts) {
            DiagramMoves moves = Examples.of(0, Examples.RING_BELOW_TREFOIL);
            undoes("a ring below a trefoil", 2, moves, dart);
            Due.text("trefoil", TREFOIL, Examples.crossings(moves));
            Due.is("one circle more", 1, moves.many(1));
            int[][] r = Examples.RING_ON_TREFOIL;
            moves = Examples.of(0, r[0], r[4], r[1], r[3], r[2]);
            undoes("a ring on a trefoil", 2, moves, dart);
            Due.text("trefoil", TREFOIL, Examples.crossings(moves));
        }
    }

    private static void manyCircles() {
        DiagramMoves moves = Examples.of(20, Examples.EIGHT);
        Due.is("undo(0)", 1, moves.undo(0));
        Due.is("many(1)", 21, moves.many(1));
        moves = Examples.of(20, Examples.TWO_RINGS);
        Due.is("undo(3)", 2, moves.undo(3));
        Due.is("many(1)", 22, moves.many(1));
        Due.is("many(4)", 22, moves.many(4));
    }

    private static void firstAndLastFace() {
        DiagramMoves moves = Examples.of(0, Examples.eights(20));
        Due.is("undo(59)", 1, moves.undo(59));
        Due.text("the last one went", "1:38,38,37,37", Examples.crossing(moves, 18));
        Due.is("many(0)", 19, moves.many(0));
        Due.is("undo(0)", 1, moves.undo(0));
        Due.text("the first one went", "1:4,4,3,3", Examples.crossing(moves, 0));
        Due.is("many(0)", 18, moves.many(0));
    }

    private static void twentyCrossings() {
        for (int face = 0; face < 22; face++) {
            DiagramMoves moves = Examples.twistedCircle(20);
            Due.is("undo(" + face + ")", face < 2 ? 0 : 1, moves.undo(face));
            Due.is("undo(" + face + "), then many(0)", face < 2 ? 20 : 19, moves.many(0));
            Examples.isDiagram("undo(" + face + ")", moves);
        }
    }

    private static void whatWasPutIn() {
        DiagramMoves moves = Examples.holding(0, Examples.EIGHT);
        Due.is("undo(0)", 1, moves.undo(0));
        Examples.stillHolds("undo(0)", moves);
        moves = Examples.holding(0, Examples.TWO_RINGS);
        Due.is("undo(0)", 2, moves.undo(0));
        Examples.stillHolds("undo(0)", moves);
    }

    private static void twoMixed() {
        for (int face = 0; face < 4; face++) {
            isRefused(face, Examples.HOPF);
        }
        isRefused(0, Examples.TREFOIL);
        isRefused(3, Examples.TREFOIL);
        isRefused(4, Examples.TREFOIL);
    }

    private static void twoAtOne() {
        isRefused(1, Examples.EIGHT);
        isRefused(0, new int[] {1, 1, 1, 2, 2});
    }

    private static void threeDarts() {
        isRefused(1, Examples.TREFOIL);
        isRefused(2, Examples.TREFOIL);
        isRefused(0, Examples.CHAIN);
        isRefused(2, Examples.CHAIN);
        isRefused(0, Examples.UNEVEN_CHAIN);
        isRefused(1, Examples.UNEVEN_CHAIN);
        for (int face = 0; face < 8; face++) {
            isRefused(face, Examples.THREE_RINGS);
            isRefused(face, Examples.BORROMEAN);
        }
    }

    private static void fourDarts() {
        isRefused(2, Examples.RING_ON_KINK);
        isRefused(1, Examples.FINGER_ON_ITSELF);
    }

    private static void noSuchFace() {
        int[] faces = {-1, 3, 4, Integer.MAX_VALUE, Integer.MIN_VALUE};
        for (int face : faces) {
            isRefused(face, Examples.EIGHT);
        }
        isRefused(-1, Examples.eights(20));
        isRefused(60, Examples.eights(20));
        DiagramMoves moves = Examples.of(0, Examples.EIGHT);
        Due.is("undo(2)", 1, moves.undo(2));
        Due.is("undo(2) once more", 0, moves.undo(2));
        Due.is("undo(0)", 0, moves.undo(0));
        Due.is("many(1)", 1, moves.many(1));
    }

    private static void circlesAlone() {
        isRefused(0);
        isRefused(-1);
    }
}
