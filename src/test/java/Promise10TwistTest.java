/** Promise 10: twist. */
public final class Promise10TwistTest {
    public static void main(String[] args) {
        Due.test("Promise 10, an edge: three parts, a crossing behind the others", Promise10TwistTest::edge);
        Due.test("Promise 10, the first edge and the last", Promise10TwistTest::firstAndLastEdge);
        Due.test("Promise 10, u < v are free labels", Promise10TwistTest::freeLabels);
        Due.test("Promise 10, an edge that is a loop", Promise10TwistTest::loop);
        Due.test("Promise 10, a circle: it is one no more", Promise10TwistTest::circle);
        Due.test("Promise 10, a circle beside edges", Promise10TwistTest::circleBesideEdges);
        Due.test("Promise 10, the last circle", Promise10TwistTest::lastCircle);
        Due.test("Promise 10, it can be undone", Promise10TwistTest::canBeUndone);
        Due.test("Promise 10, 18 and 19 crossings", Promise10TwistTest::nineteenCrossings);
        Due.test("Promise 10, what was put in stays", Promise10TwistTest::whatWasPutIn);
        Due.test("Promise 10, refused: no circle", Promise10TwistTest::noCircle);
        Due.test("Promise 10, refused: no such edge", Promise10TwistTest::noSuchEdge);
        Due.test("Promise 10, refused: an edge that was put in alone", Promise10TwistTest::edgePutIn);
        Due.test("Promise 10, refused: an edge that is gone", Promise10TwistTest::edgeGone);
        Due.test("Promise 10, refused: a sign that is none", Promise10TwistTest::noSign);
        Due.test("Promise 10, refused: 20 crossings", Promise10TwistTest::twentyCrossings);
        Due.end();
    }

    private static void isTwisted(String wants, int label, int sign, boolean above, int circles, int[]... crossings) {
        String call = "twist(" + label + ", " + sign + ", " + above + ")";
        DiagramMoves moves = Examples.of(circles, crossings);
        Due.is(call, true, moves.twist(label, sign, above));
        Due.text(call, wants, Examples.crossings(moves));
        Due.is(call + ", then many(1)", label == 0 ? circles - 1 : circles, moves.many(1));
        Examples.isDiagram(call, moves);
    }

    private static void isRefused(int label, int sign, int circles, int[]... crossings) {
        Refused.move("twist(" + label + ", " + sign + ", true)", () -> Examples.holding(circles, crossings),
                m -> m.twist(label, sign, true));
        Refused.move("twist(" + label + ", " + sign + ", false)", () -> Examples.holding(circles, crossings),
                m -> m.twist(label, sign, false));
    }

    private static void edge() {
        int[][] trefoil = Examples.TREFOIL;
        isTwisted("1:8,5,2,4 1:3,1,4,6 1:5,3,6,2 1:7,7,8,1", 1, 1, true, 0, trefoil);
        isTwisted("1:8,5,2,4 1:3,1,4,6 1:5,3,6,2 -1:7,1,8,7", 1, -1, true, 0, trefoil);
        isTwisted("1:8,5,2,4 1:3,1,4,6 1:5,3,6,2 1:1,8,7,7", 1, 1, false, 2, trefoil);
        isTwisted("1:8,5,2,4 1:3,1,4,6 1:5,3,6,2 -1:1,7,7,8", 1, -1, false, 2, trefoil);
    }

    private static void firstAndLastEdge() {
        isTwisted("1:1,5,2,4 1:3,1,4,8 1:5,3,6,2 -1:7,6,8,7", 6, -1, true, 0, Examples.TREFOIL);
        int[] one = {1, 9999, 9999, 1, 1};
        isTwisted("1:9999,9999,1,3 1:1,3,2,2", 1, 1, false, 0, one);
        isTwisted("1:3,9999,1,1 1:9999,3,2,2", 9999, 1, false, 0, one);
    }

    private static void freeLabels() {
        isTwisted("1:4,3,1,1 1:2,2,4,3", 3, 1, true, 0, new int[] {1, 3, 3, 1, 1});
        isTwisted("1:2,4,3,3 1:1,1,2,4", 4, 1, true, 0, new int[] {1, 4, 4, 3, 3});
        isTwisted("1:3,9,2,2 1:1,1,3,9", 9, 1, true, 0, new int[] {1, 9, 9, 2, 2});
        DiagramMoves moves = Examples.of(0, Examples.eights(19));
        Due.is("1 to 38: twist(38, 1, true)", true, moves.twist(38, 1, true));
        Due.text("39 and 40", "1:39,39,40,38", Examples.crossing(moves, 19));
    }

    private static void loop() {
        isTwisted("1:2,2,1,4 1:3,3,4,1", 1, 1, true, 0, Examples.EIGHT);
        isTwisted("1:4,2,1,1 -1:2,3,3,4", 2, -1, false, 0, Examples.EIGHT);
    }

    private static void circle() {
        isTwisted("1:1,1,2,2", 0, 1, true, 20);
        isTwisted("-1:1,2,2,1", 0, -1, true, 20);
        isTwisted("1:2,2,1,1", 0, 1, false, 2);
        isTwisted("-1:2,1,1,2", 0, -1, false, 2);
        DiagramMoves moves = Examples.of(3);
        Due.is("twist(0, 1, true)", true, moves.twist(0, 1, true));
        Due.is("components", 3, moves.many(4));
        Due.is("pieces", 3, moves.many(5));
    }

    private static void circleBesideEdges() {
        isTwisted("1:3,3,1,1 1:4,4,2,2", 0, 1, false, 1, new int[] {1, 3, 3, 1, 1});
        isTwisted("1:1,5,2,4 1:3,1,4,6 1:5,3,6,2 -1:7,8,8,7", 0, -1, true, 5, Examples.TREFOIL);
    }

    private static void lastCircle() {
        isTwisted("1:1,1,2,2", 0, 1, true, 1);
        DiagramMoves moves = Examples.of(1);
        Due.is("twist(0, 1, true)", true, moves.twist(0, 1, true));
        Due.is("twist(0, 1, true) once more", false, moves.twist(0, 1, true));
        Due.is("many(0)", 1, moves.many(0));
        Due.is("many(1)", 0, moves.many(1));
        moves = Examples.of(20, Examples.EIGHT);
        Due.is("undo(0)", 1, moves.undo(0));
        Due.is("twist(0, 1, true) of 21 circles", true, moves.twist(0, 1, true));
        Due.is("many(1)", 20, moves.many(1));
    }

    private static void canBeUndone() {
        for (int kind = 0; kind < 4; kind++) {
            DiagramMoves moves = Examples.of(1, Examples.TREFOIL);
            Due.is("twist(4, ..)", true, moves.twist(4, (kind & 1) == 0 ? 1 : -1, (kind & 2) == 0));
            Due.is("simplify()", 1, moves.simplify());
            Due.text("as it was", Examples.all(Examples.of(1, Examples.TREFOIL)), Examples.all(moves));
        }
    }

    private static void nineteenCrossings() {
        for (int crossings = 18; crossings <= 19; crossings++) {
            DiagramMoves moves = Examples.of(1, Examples.eights(crossings));
            Due.is("an edge", true, moves.twist(1, 1, true));
            Due.is("an edge, then many(0)", crossings + 1, moves.many(0));
            Examples.isDiagram("an edge", moves);
            moves = Examples.of(1, Examples.eights(crossings));
            Due.is("a circle", true, moves.twist(0, -1, false));
            Due.is("a circle, then many(0)", crossings + 1, moves.many(0));
            Examples.isDiagram("a circle", moves);
        }
    }

    private static void whatWasPutIn() {
        DiagramMoves moves = Examples.holding(1, Examples.TREFOIL);
        Due.is("twist(1, 1, true)", true, moves.twist(1, 1, true));
        Due.is("twist(0, 1, true)", true, moves.twist(0, 1, true));
        Examples.stillHolds("two twists", moves);
        moves = Examples.of(1);
        Examples.put(moves, Examples.eights(20));
        Due.is("twenty put in: twist(0, 1, true)", true, moves.twist(0, 1, true));
        Due.is("many(6)", 20, moves.many(6));
    }

    private static void noCircle() {
        isRefused(0, 1, 0, Examples.TREFOIL);
        isRefused(0, -1, 0, Examples.TREFOIL);
        isRefused(0, 1, 0);
        isRefused(0, -1, 0, Examples.eights(19));
    }

    private static void noSuchEdge() {
        int[] labels = {7, 8, -1, -6, 9999, 10000, 65537, Integer.MAX_VALUE, Integer.MIN_VALUE};
        for (int label : labels) {
            isRefused(label, 1, 1, Examples.TREFOIL);
        }
        isRefused(1, 1, 20);
        isRefused(-1, 1, 20);
        isRefused(2, -1, 0, new int[] {1, 3, 3, 1, 1});
        isRefused(4, -1, 0, new int[] {1, 3, 3, 1, 1});
    }

    private static void edgePutIn() {
        isRefused(31, 1, 1, Examples.TREFOIL);
        isRefused(9999, 1, 1);
    }

    private static void edgeGone() {
        DiagramMoves moves = Examples.of(0, Examples.TREFOIL);
        Due.is("twist(1, 1, true)", true, moves.twist(1, 1, true));
        Due.is("simplify()", 1, moves.simplify());
        Due.is("twist(7, 1, true)", false, moves.twist(7, 1, true));
        Due.is("twist(8, 1, true)", false, moves.twist(8, 1, true));
        Due.text("as it was", Examples.all(Examples.of(0, Examples.TREFOIL)), Examples.all(moves));
        Examples.put(moves, Examples.EIGHT);
        Due.is("check(0)", 0, moves.check(0));
        Due.is("twist(3, 1, true)", false, moves.twist(3, 1, true));
        Due.is("twist(6, 1, true)", false, moves.twist(6, 1, true));
        Due.is("check(0) of nothing", 0, moves.check(0));
        Due.is("twist(1, 1, true)", false, moves.twist(1, 1, true));
        Due.is("many(0)", 0, moves.many(0));
    }

    private static void noSign() {
        for (int sign : Examples.NO_SIGNS) {
            isRefused(1, sign, 1, Examples.TREFOIL);
            isRefused(0, sign, 1, Examples.TREFOIL);
            isRefused(0, sign, 0);
        }
    }

    private static void twentyCrossings() {
        isRefused(1, 1, 1, Examples.eights(20));
        isRefused(40, -1, 1, Examples.eights(20));
        isRefused(0, 1, 1, Examples.eights(20));
        isRefused(0, -1, 0, Examples.eights(20));
        isRefused(41, 1, 1, Examples.eights(20));
        isRefused(1, 0, 1, Examples.eights(20));
        Refused.move("one piece: twist(1, 1, true)", () -> Examples.twistedCircle(20), m -> m.twist(1, 1, true));
    }
}
