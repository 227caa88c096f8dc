/** Promise 6: face. */
public final class Promise06FaceTest {
    public static void main(String[] args) {
        Due.test("Promise 6, how many darts when i is -1", Promise06FaceTest::howManyDarts);
        Due.test("Promise 6, the label of each dart", Promise06FaceTest::labels);
        Due.test("Promise 6, below 0 against the edge", Promise06FaceTest::against);
        Due.test("Promise 6, beginning with its least dart", Promise06FaceTest::leastDartFirst);
        Due.test("Promise 6, the first face", Promise06FaceTest::firstFace);
        Due.test("Promise 6, the last face", Promise06FaceTest::lastFace);
        Due.test("Promise 6, 0 before the first face", () -> isNoFace(-1));
        Due.test("Promise 6, 0 behind the last face", () -> isNoFace(5));
        Due.test("Promise 6, 0 far from the faces", Promise06FaceTest::farFaces);
        Due.test("Promise 6, 0 behind the last dart", Promise06FaceTest::behindLastDart);
        Due.test("Promise 6, 0 for i -2", () -> isNoDart(-2));
        Due.test("Promise 6, 0 for darts far off", Promise06FaceTest::farDarts);
        Due.test("Promise 6, twenty crossings", Promise06FaceTest::twentyCrossings);
        Due.test("Promise 6, circles have no faces", Promise06FaceTest::circles);
        Due.test("Promise 6, a face that is gone is not there", Promise06FaceTest::gone);
        Due.end();
    }

    private static void howManyDarts() {
        DiagramMoves moves = Examples.of(0, Examples.TREFOIL);
        int[] wants = {2, 3, 3, 2, 2};
        for (int k = 0; k < 5; k++) {
            Due.is("trefoil: face(" + k + ", -1)", wants[k], moves.face(k, -1));
        }
        moves = Examples.of(0, Examples.EIGHT);
        Due.is("a loop: face(0, -1)", 1, moves.face(0, -1));
        Due.is("both loops' other side: face(1, -1)", 2, moves.face(1, -1));
    }

    private static void labels() {
        DiagramMoves moves = Examples.of(0, Examples.TREFOIL);
        int[][] wants = {{1, -4}, {-1, -3, -5}, {2, 6, 4}, {-2, 5}, {3, -6}};
        for (int k = 0; k < 5; k++) {
            for (int i = 0; i < wants[k].length; i++) {
                Due.is("face(" + k + ", " + i + ")", wants[k][i], moves.face(k, i));
            }
        }
    }

    private static void against() {
        DiagramMoves moves = Examples.of(0, new int[] {-1, 9999, 2, 2, 9999});
        Due.text("faces", "2,-9999 -2 9999", Examples.faces(moves));
        Due.is("along 2", 2, moves.face(0, 0));
        Due.is("against 9999", -9999, moves.face(0, 1));
        Due.is("against 2", -2, moves.face(1, 0));
        Due.is("along 9999", 9999, moves.face(2, 0));
    }

    private static void leastDartFirst() {
        DiagramMoves moves = Examples.of(0, Examples.THREE_RINGS);
        Due.text("faces", "1,-10,7 -1,8,-11 2,6,10 -2,11,5 3,9,-6 -3,-5,12 4,-7,-9 -4,-12,-8",
                Examples.faces(moves));
        for (int k = 0; k < 8; k++) {
            for (int i = 1; i < moves.face(k, -1); i++) {
                Due.is("face " + k + " begins with its least dart", true,
                        rank(moves.face(k, 0)) < rank(moves.face(k, i)));
            }
        }
    }

    private static int rank(int dart) {
        return dart > 0 ? 2 * dart : -2 * dart + 1;
    }

    private static void firstFace() {
        Due.text("trefoil", "1,-4", Examples.face(Examples.of(0, Examples.TREFOIL), 0));
        Due.text("the least label is the second crossing's", "1",
                Examples.face(Examples.of(0, new int[] {1, 20, 20, 3, 3}, new int[] {1, 9999, 9999, 1, 1}), 0));
    }

    private static void lastFace() {
        Due.text("trefoil", "3,-6", Examples.face(Examples.of(0, Examples.TREFOIL), 4));
        Due.text("an eight", "-2", Examples.face(Examples.of(0, Examples.EIGHT), 2));
        Due.text("two pieces", "-9999",
                Examples.face(Examples.of(0, new int[] {1, 20, 20, 3, 3}, new int[] {1, 9999, 9999, 1, 1}), 5));
    }

    private static void isNoFace(int k) {
        for (int i = -2; i <= 3; i++) {
            int number = i;
            Refused.call("face(" + k + ", " + i + ")", 0, () -> Examples.holding(1, Examples.TREFOIL),
                    m -> m.face(k, number));
        }
    }

    private static void farFaces() {
        int[] others = {-2, 6, 22, 80, 81, Integer.MAX_VALUE, Integer.MIN_VALUE};
        for (int k : others) {
            isNoFace(k);
        }
    }

    private static void behindLastDart() {
        DiagramMoves moves = Examples.of(0, Examples.TREFOIL);
        int[] sizes = {2, 3, 3, 2, 2};
        for (int k = 0; k < 5; k++) {
            Due.is("face(" + k + ", " + sizes[k] + ")", 0, moves.face(k, sizes[k]));
        }
        Due.is("a loop: face(0, 1)", 0, Examples.of(0, Examples.EIGHT).face(0, 1));
    }

    private static void isNoDart(int i) {
        for (int k = 0; k < 5; k++) {
            int number = k;
            Refused.call("face(" + k + ", " + i + ")", 0, () -> Examples.holding(1, Examples.TREFOIL),
                    m -> m.face(number, i));
        }
    }

    private static void farDarts() {
        int[] others = {-3, 4, 80, 81, Integer.MAX_VALUE, Integer.MIN_VALUE};
        for (int i : others) {
            isNoDart(i);
        }
    }

    private static void twentyCrossings() {
        DiagramMoves moves = Examples.of(0, Examples.eights(20));
        Due.text("the first", "1", Examples.face(moves, 0));
        Due.text("one before the last", "-39,40", Examples.face(moves, 58));
        Due.text("the last", "-40", Examples.face(moves, 59));
        Due.is("behind the last's last dart", 0, moves.face(59, 1));
        Due.is("behind the last", 0, moves.face(60, -1));
        Due.is("behind the last", 0, moves.face(60, 0));
    }

    private static void circles() {
        DiagramMoves moves = Examples.of(20);
        Due.is("face(0, -1)", 0, moves.face(0, -1));
        Due.is("face(0, 0)", 0, moves.face(0, 0));
        Due.is("face(3, -1)", 0, Examples.of(20, Examples.EIGHT).face(3, -1));
    }

    private static void gone() {
        DiagramMoves moves = Examples.of(0, Examples.CHAIN);
        Due.text("before", "1,-9,-2 -1 2,-5,9 5", Examples.faces(moves));
        Due.is("undo(1)", 1, moves.undo(1));
        Due.text("after", "1,-5 -1 5", Examples.faces(moves));
        Due.is("face(3, -1)", 0, moves.face(3, -1));
        Due.is("face(3, 0)", 0, moves.face(3, 0));
        Due.is("simplify()", 1, moves.simplify());
        Due.is("face(0, -1)", 0, moves.face(0, -1));
        Due.is("face(0, 0)", 0, moves.face(0, 0));
    }
}
