/** Promise 11: push. */
public final class Promise11PushTest {
    private static final int[][] TWO_PIECES = {{1, 2, 2, 1, 1}, {-1, 7, 6, 6, 7}};

    public static void main(String[] args) {
        Due.test("Promise 11, two darts of one face, over and below", Promise11PushTest::oneFace);
        Due.test("Promise 11, two darts of one face at one crossing", Promise11PushTest::oneFaceOneCrossing);
        Due.test("Promise 11, two darts of one face of many", Promise11PushTest::longFace);
        Due.test("Promise 11, it can be undone", Promise11PushTest::canBeUndone);
        Due.test("Promise 11, two pieces, every dart", Promise11PushTest::twoPieces);
        Due.test("Promise 11, two pieces, its crossings", Promise11PushTest::twoPiecesCrossings);
        Due.test("Promise 11, u < v < w < z are free labels", Promise11PushTest::freeLabels);
        Due.test("Promise 11, 17 and 18 crossings", Promise11PushTest::eighteenCrossings);
        Due.test("Promise 11, what was put in stays", Promise11PushTest::whatWasPutIn);
        Due.test("Promise 11, refused: two faces of one piece", Promise11PushTest::twoFacesOfOnePiece);
        Due.test("Promise 11, refused: the other dart of an edge of the face", Promise11PushTest::otherDart);
        Due.test("Promise 11, refused: an edge and itself", Promise11PushTest::edgeAndItself);
        Due.test("Promise 11, refused: no such edge", Promise11PushTest::noSuchEdge);
        Due.test("Promise 11, refused: a circle", Promise11PushTest::circle);
        Due.test("Promise 11, refused: an edge that was put in alone", Promise11PushTest::edgePutIn);
        Due.test("Promise 11, refused: an edge that is gone", Promise11PushTest::edgeGone);
        Due.test("Promise 11, refused: 19 and 20 crossings", Promise11PushTest::nineteenCrossings);
        Due.end();
    }

    private static boolean push(DiagramMoves moves, int dartX, int dartY, boolean over) {
        return moves.push(Math.abs(dartX), dartX < 0, Math.abs(dartY), dartY < 0, over);
    }

    private static String name(int dartX, int dartY, boolean over) {
        return "push of " + dartX + (over ? " over " : " below ") + dartY;
    }

    private static void isPushed(String wants, int dartX, int dartY, boolean over, int[]... crossings) {
        String call = name(dartX, dartY, over);
        DiagramMoves moves = Examples.of(1, crossings);
        Due.is(call, true, push(moves, dartX, dartY, over));
        Due.text(call, wants, Examples.crossings(moves));
        Due.is(call + ", then many(1)", 1, moves.many(1));
        Examples.isDiagram(call, moves);
    }

    /** Both over and below. */
    private static void isRefused(int dartX, int dartY, int circles, int[]... crossings) {
        for (int way = 0; way < 2; way++) {
            boolean over = way == 0;
            Refused.move(name(dartX, dartY, over), () -> Examples.holding(circles, crossings),
                    m -> push(m, dartX, dartY, over));
        }
    }

    private static void oneFace() {
        int[][] t = Examples.TREFOIL;
        isPushed("1:1,5,2,4 1:3,1,4,10 1:5,3,6,8 1:9,7,10,2 -1:6,7,9,8", 2, 6, true, t);
        isPushed("1:1,5,2,4 1:3,1,4,10 1:5,3,6,8 -1:2,9,7,10 1:7,9,8,6", 2, 6, false, t);
        isPushed("1:8,5,2,4 1:10,1,4,6 1:5,3,6,2 1:3,8,9,7 -1:9,1,10,7", -1, -3, true, t);
        isPushed("1:8,5,2,4 1:10,1,4,6 1:5,3,6,2 -1:7,3,8,9 1:1,10,7,9", -1, -3, false, t);
        isPushed("1:8,5,2,10 1:3,1,4,6 1:5,3,6,2 -1:4,1,9,7 1:9,8,10,7", 1, -4, true, t);
        isPushed("1:8,5,2,10 1:3,1,4,6 1:5,3,6,2 1:1,9,7,4 -1:7,9,8,10", 1, -4, false, t);
        isPushed("1:10,5,2,8 1:3,1,4,6 1:5,3,6,2 -1:9,7,10,8 1:1,7,9,4", -4, 1, true, t);
        isPushed("1:10,5,2,8 1:3,1,4,6 1:5,3,6,2 1:7,10,8,9 -1:4,1,7,9", -4, 1, false, t);
    }

    /** Face 1 of the eight is -1, 2; both edges come back to the same crossing. */
    private static void oneFaceOneCrossing() {
        isPushed("1:6,2,1,4 -1:5,3,6,4 1:2,3,5,1", -1, 2, true, Examples.EIGHT);
        isPushed("1:4,2,1,6 -1:1,2,5,3 1:5,4,6,3", 2, -1, true, Examples.EIGHT);
    }

    private static void longFace() {
        DiagramMoves probe = Examples.twistedCircle(18);
        int size = probe.face(0, -1);
        Due.is("a long face", true, size > 20);
        int first = probe.face(0, 0);
        int last = probe.face(0, size - 1);
        DiagramMoves moves = Examples.twistedCircle(18);
        Due.is("the first over the last", true, push(moves, first, last, true));
        Examples.isDiagram("the first over the last", moves);
        moves = Examples.twistedCircle(18);
        Due.is("the last below the first", true, push(moves, last, first, false));
        Examples.isDiagram("the last below the first", moves);
    }

    private static void canBeUndone() {
        String before = Examples.all(Examples.of(1, Examples.TREFOIL));
        int[][] darts = {{1, -4}, {-1, -3}, {-5, -1}, {2, 6}, {6, 4}, {5, -2}, {-6, 3}};
        for (int[] two : darts) {
            for (int way = 0; way < 2; way++) {
                String call = name(two[0], two[1], way == 0);
                DiagramMoves moves = Examples.of(1, Examples.TREFOIL);
                Due.is(call, true, push(moves, two[0], two[1], way == 0));
                // The finger turns to the right at its tip, so that lies to the right of the dart.
                int tip = Examples.faceWith(moves, two[0] < 0 ? 7 : -7);
                Due.is(call + ", then pattern", 2, moves.pattern(tip));
                Due.is(call + ", then undo", 2, moves.undo(tip));
                Due.text(call + ", then all", before, Examples.all(moves));
            }
        }
    }

    private static void twoPieces() {
        int[] labels = {6, 7};
        for (int way = 0; way < 8; way++) {
            for (int x = 1; x <= 2; x++) {
                for (int y : labels) {
                    int dartX = (way & 1) != 0 ? -x : x;
                    int dartY = (way & 2) != 0 ? -y : y;
                    isOnePiece(dartX, dartY, (way & 4) != 0);
                    isOnePiece(dartY, dartX, (way & 4) != 0);
                }
            }
        }
    }

    private static void isOnePiece(int dartX, int dartY, boolean over) {
        String call = name(dartX, dartY, over);
        DiagramMoves moves = Examples.of(0, TWO_PIECES);
        Due.is(call, true, push(moves, dartX, dartY, over));
        int[] wants = {4, 0, 0, 6, 2, 1};
        for (int what = 0; what < wants.length; what++) {
            Due.is(call + ", then many(" + what + ")", wants[what], moves.many(what));
        }
        Examples.isDiagram(call, moves);
    }

    private static void twoPiecesCrossings() {
        isPushed("1:2,2,1,8 -1:4,6,6,7 1:5,3,8,7 -1:1,3,5,4", 7, 1, true, TWO_PIECES);
        isPushed("1:2,2,1,8 -1:4,6,6,7 -1:7,5,3,8 1:3,5,4,1", 7, 1, false, TWO_PIECES);
        isPushed("1:2,2,1,8 -1:4,6,6,7 -1:1,7,5,3 1:5,4,8,3", 7, -1, true, TWO_PIECES);
    }

    private static void freeLabels() {
        int[][] from11 = {{1, 11, 15, 12, 14}, {1, 13, 11, 14, 16}, {1, 15, 13, 16, 12}};
        isPushed("1:11,15,12,14 1:13,11,14,4 1:15,13,16,2 1:3,1,4,12 -1:16,1,3,2", 12, 16, true, from11);
        int[][] high = {{1, 9994, 9998, 9995, 9997}, {1, 9996, 9994, 9997, 9999}, {1, 9998, 9996, 9999, 9995}};
        isPushed("1:9994,9998,9995,9997 1:9996,9994,9997,4 1:9998,9996,9999,2 1:3,1,4,9995 -1:9999,1,3,2",
                9995, 9999, true, high);
        int[][] gaps = {{1, 2, 9, 4, 7}, {1, 6, 2, 7, 10}, {1, 9, 6, 10, 4}};
        isPushed("1:2,9,4,7 1:6,2,7,8 1:9,6,10,3 1:5,1,8,4 -1:10,1,5,3", 4, 10, true, gaps);
    }

    private static void eighteenCrossings() {
        for (int crossings = 17; crossings <= 18; crossings++) {
            DiagramMoves moves = Examples.of(0, Examples.eights(crossings));
            Due.is("one face", true, push(moves, -1, 2, true));
            Due.is("one face, then many(0)", crossings + 2, moves.many(0));
            Examples.isDiagram("one face", moves);
            moves = Examples.of(0, Examples.eights(crossings));
            Due.is("two pieces", true, push(moves, -2, 2 * crossings, false));
            Due.is("two pieces, then many(0)", crossings + 2, moves.many(0));
            Examples.isDiagram("two pieces", moves);
        }
    }

    private static void whatWasPutIn() {
        DiagramMoves moves = Examples.holding(1, Examples.TREFOIL);
        Due.is("push", true, push(moves, 2, 6, true));
        Examples.stillHolds("push", moves);
        moves = Examples.of(0, TWO_PIECES);
        Examples.put(moves, Examples.eights(20));
        Due.is("twenty put in: push", true, push(moves, 1, 7, true));
        Due.is("many(6)", 20, moves.many(6));
    }

    private static void twoFacesOfOnePiece() {
        DiagramMoves moves = Examples.of(0, Examples.TREFOIL);
        int refused = 0;
        for (int k = 0; k < 5; k++) {
            for (int other = 0; other < 5; other++) {
                for (int i = 0; i < moves.face(k, -1) && other != k; i++) {
                    isRefused(moves.face(k, i), moves.face(other, 0), 1, Examples.TREFOIL);
                    refused++;
                }
            }
        }
        Due.is("how many", 48, refused);
        // Beside another piece the faces are two all the same.
        isRefused(1, 2, 0, TWO_PIECES);
        isRefused(-6, 7, 0, TWO_PIECES);
    }

    private static void otherDart() {
        isRefused(-1, -4, 1, Examples.TREFOIL);
        isRefused(1, 4, 1, Examples.TREFOIL);
        isRefused(-1, 4, 1, Examples.TREFOIL);
        isRefused(1, 2, 1, Examples.EIGHT);
        isRefused(-1, -2, 1, Examples.EIGHT);
        isRefused(1, -2, 1, Examples.EIGHT);
    }

    private static void edgeAndItself() {
        for (int x = 1; x <= 6; x++) {
            isRefused(x, x, 1, Examples.TREFOIL);
            isRefused(x, -x, 1, Examples.TREFOIL);
            isRefused(-x, x, 1, Examples.TREFOIL);
            isRefused(-x, -x, 1, Examples.TREFOIL);
        }
        isRefused(1, 1, 0, TWO_PIECES);
        isRefused(7, -7, 0, TWO_PIECES);
    }

    private static void noSuchEdge() {
        int[] labels = {7, 8, -1, -6, 9999, 10000, 65537, Integer.MAX_VALUE, Integer.MIN_VALUE};
        for (int label : labels) {
            for (int way = 0; way < 8; way++) {
                boolean againstX = (way & 1) != 0;
                boolean againstY = (way & 2) != 0;
                boolean over = (way & 4) != 0;
                Refused.move("x " + label, () -> Examples.holding(1, Examples.TREFOIL),
                        m -> m.push(label, againstX, 1, againstY, over));
                Refused.move("y " + label, () -> Examples.holding(1, Examples.TREFOIL),
                        m -> m.push(1, againstX, label, againstY, over));
                Refused.move("both " + label, () -> Examples.holding(1, Examples.TREFOIL),
                        m -> m.push(label, againstX, label, againstY, over));
            }
        }
        isRefused(7, 8, 1, Examples.TREFOIL);
        isRefused(1, 2, 1);
        isRefused(1, 3, 0, TWO_PIECES);
        isRefused(5, 7, 0, TWO_PIECES);
        isRefused(1, 8, 0, TWO_PIECES);
    }

    private static void circle() {
        isRefused(0, 1, 3, Examples.TREFOIL);
        isRefused(1, 0, 3, Examples.TREFOIL);
        isRefused(0, 0, 3, Examples.TREFOIL);
        isRefused(0, 0, 20);
    }

    private static void edgePutIn() {
        isRefused(1, 31, 1, Examples.TREFOIL);
        isRefused(31, 1, 1, Examples.TREFOIL);
        isRefused(31, -17, 1, Examples.TREFOIL);
        isRefused(31, 9999, 0);
    }

    private static void edgeGone() {
        DiagramMoves moves = Examples.of(0, Examples.TREFOIL);
        Due.is("push", true, push(moves, 2, 6, true));
        Due.is("simplify()", 2, moves.simplify());
        String before = Examples.all(moves);
        for (int label = 7; label <= 10; label++) {
            Due.is("x " + label, false, moves.push(label, false, 1, false, true));
            Due.is("y " + label, false, moves.push(1, false, label, false, true));
        }
        Due.text("nothing was done", before, Examples.all(moves));
        Due.is("check(0) of nothing", 0, moves.check(0));
        Due.is("push", false, push(moves, 2, 6, true));
        Due.is("many(0)", 0, moves.many(0));
    }

    private static void nineteenCrossings() {
        for (int crossings = 19; crossings <= 20; crossings++) {
            isRefused(-1, 2, 1, Examples.eights(crossings));
            isRefused(1, 3, 1, Examples.eights(crossings));
            isRefused(-2, 2 * crossings, 1, Examples.eights(crossings));
            isRefused(1, 1, 1, Examples.eights(crossings));
            isRefused(41, 1, 1, Examples.eights(crossings));
            int number = crossings;
            DiagramMoves probe = Examples.twistedCircle(crossings);
            int x = probe.face(0, 0);
            int y = probe.face(0, 1);
            Refused.move("one piece", () -> Examples.twistedCircle(number), m -> push(m, x, y, true));
        }
    }
}
