/** Promises 1, 2 and 3: a new object, crossing, check. */
public final class PutInTest {
    public static void main(String[] args) {
        newObject();
        crossingCounts();
        crossingRefuses();
        checkTakesDiagrams();
        checkNamesTheFirstFault();
        checkForgetsWhatWasPutIn();
        checkRefusesCircles();
        Due.end();
    }

    private static void newObject() {
        DiagramMoves moves = new DiagramMoves();
        for (int what = 0; what < 7; what++) {
            Due.is("new: many(" + what + ")", 0, moves.many(what));
        }
        Due.is("new: many(7)", 1, moves.many(7));
        Due.is("new: look(0, 4)", 0, moves.look(0, 4));
        Due.is("new: face(0, -1)", 0, moves.face(0, -1));
        Due.is("new: pattern(0)", -1, moves.pattern(0));
        Due.is("new: undo(0)", 0, moves.undo(0));
        Due.is("new: slide(0)", false, moves.slide(0));
        Due.is("new: twist(0, 1, true)", false, moves.twist(0, 1, true));
        Due.is("new: push(1, false, 2, false, true)", false, moves.push(1, false, 2, false, true));
        Due.is("new: simplify()", 0, moves.simplify());
        Due.is("new: check(0)", 0, moves.check(0));
    }

    private static void crossingCounts() {
        DiagramMoves moves = new DiagramMoves();
        Due.is("label 1", 1, moves.crossing(1, 1, 1, 1, 1));
        Due.is("label 9999", 2, moves.crossing(-1, 9999, 9999, 9999, 9999));
        for (int n = 3; n <= 20; n++) {
            Due.is("crossing " + n, n, moves.crossing(1, n, n, n + 1, n + 1));
            Due.is("many(6)", n, moves.many(6));
        }
        Due.is("crossing 21", -1, moves.crossing(1, 1, 1, 2, 2));
        Due.is("many(6)", 20, moves.many(6));
        Due.is("the diagram is as it was", 0, moves.many(0));
    }

    private static void crossingRefuses() {
        DiagramMoves moves = new DiagramMoves();
        int[] noSigns = {0, 2, -2, 3, Integer.MAX_VALUE, Integer.MIN_VALUE};
        for (int sign : noSigns) {
            Due.is("sign " + sign, -1, moves.crossing(sign, 1, 1, 2, 2));
        }
        int[] noLabels = {0, -1, 10000, Integer.MAX_VALUE, Integer.MIN_VALUE};
        for (int label : noLabels) {
            Due.is("l0 " + label, -1, moves.crossing(1, label, 1, 2, 2));
            Due.is("l1 " + label, -1, moves.crossing(1, 1, label, 2, 2));
            Due.is("l2 " + label, -1, moves.crossing(1, 1, 1, label, 2));
            Due.is("l3 " + label, -1, moves.crossing(1, 1, 1, 2, label));
        }
        Due.is("many(6)", 0, moves.many(6));
        Due.is("a good one", 1, moves.crossing(1, 1, 1, 2, 2));
        Due.is("a bad one behind it", -1, moves.crossing(0, 1, 1, 2, 2));
        Due.is("many(6)", 1, moves.many(6));
        Due.is("check(0)", 0, moves.check(0));
        Due.text("crossings", "1:1,1,2,2", Examples.crossings(moves));
    }

    private static void checkTakesDiagrams() {
        DiagramMoves moves = Examples.of(0, Examples.TREFOIL);
        Due.text("crossings", "1:1,5,2,4 1:3,1,4,6 1:5,3,6,2", Examples.crossings(moves));
        Due.is("many(6)", 0, moves.many(6));
        Examples.put(moves, Examples.HOPF);
        Due.is("before the check there is still the trefoil", 3, moves.many(0));
        Due.is("check(20)", 0, moves.check(20));
        Due.text("crossings", "1:3,2,4,1 1:2,3,1,4", Examples.crossings(moves));
        Due.is("many(1)", 20, moves.many(1));
        Due.is("check(0) of nothing", 0, moves.check(0));
        Due.is("many(0)", 0, moves.many(0));
        Due.is("many(1)", 0, moves.many(1));
        moves.crossing(-1, 9999, 1, 1, 9999);
        Due.is("labels 1 and 9999", 0, moves.check(0));
        for (int n = 0; n < 20; n++) {
            moves.crossing(1, 2 * n + 1, 2 * n + 1, 2 * n + 2, 2 * n + 2);
        }
        Due.is("20 crossings", 0, moves.check(0));
        Due.is("many(0)", 20, moves.many(0));
        Due.is("many(3)", 60, moves.many(3));
        Due.is("many(5)", 20, moves.many(5));
    }

    private static void checkNamesTheFirstFault() {
        isFault("labels that stand once", 1, new int[][] {{1, 1, 2, 3, 4}});
        isFault("one label once, one thrice", 1, new int[][] {{1, 1, 1, 1, 2}});
        isFault("a label four times", 1, new int[][] {{1, 1, 1, 1, 1}});
        isFault("a label four times beside others", 1, new int[][] {{1, 5, 5, 7, 7}, {1, 7, 7, 8, 8}});
        isFault("a label thrice and one once", 1, new int[][] {{1, 1, 1, 2, 2}, {1, 2, 3, 4, 4}});
        isFault("in and in, out and out", 2, new int[][] {{1, 1, 2, 2, 1}});
        isFault("the same labels with the other sign", 2, new int[][] {{-1, 1, 1, 2, 2}});
        isFault("a torus", 3, new int[][] {Examples.TORUS});
        isFault("a sphere and a torus", 3, new int[][] {{1, 3, 3, 4, 4}, Examples.TORUS});
        isFault("(1) before (2)", 1, new int[][] {{-1, 1, 1, 2, 2}, {1, 3, 3, 4, 5}});
        isFault("(2) before (3)", 2, new int[][] {Examples.TORUS, {-1, 3, 3, 4, 4}});
        isFault("(1) before (3)", 1, new int[][] {Examples.TORUS, {1, 3, 3, 4, 5}});
        isFault("a trefoil with one crossing's places turned", 3,
                new int[][] {{-1, 1, 4, 2, 5}, {1, 3, 1, 4, 6}, {1, 5, 3, 6, 2}});
    }

    private static void isFault(String what, int fault, int[][] crossings) {
        DiagramMoves moves = Examples.of(3, Examples.HOPF);
        String before = Examples.all(moves);
        Examples.put(moves, crossings);
        Due.is(what, fault, moves.check(0));
        Due.text(what + ": the diagram stays", before, Examples.all(moves));
        Due.is(what + ": many(6)", 0, moves.many(6));
    }

    private static void checkForgetsWhatWasPutIn() {
        DiagramMoves moves = new DiagramMoves();
        Examples.put(moves, Examples.TORUS);
        Due.is("a torus", 3, moves.check(0));
        Examples.put(moves, Examples.EIGHT);
        Due.is("the torus is gone", 0, moves.check(2));
        Due.is("many(0)", 1, moves.many(0));
        Due.is("many(1)", 2, moves.many(1));
        Due.is("one behind a diagram", 1, moves.crossing(1, 1, 1, 2, 2));
    }

    private static void checkRefusesCircles() {
        DiagramMoves moves = Examples.of(1, Examples.TREFOIL);
        String before = Examples.all(moves);
        Examples.put(moves, Examples.HOPF);
        int[] noCircles = {-1, 21, Integer.MAX_VALUE, Integer.MIN_VALUE};
        for (int circles : noCircles) {
            Due.is("check(" + circles + ")", -1, moves.check(circles));
            Due.text("the diagram stays", before, Examples.all(moves));
            Due.is("what was put in stays", 2, moves.many(6));
        }
        Due.is("check(0)", 0, moves.check(0));
        Due.is("many(0)", 2, moves.many(0));
    }
}
