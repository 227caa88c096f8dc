/** Promise 5: look. */
public final class Promise05LookTest {
    private static final int[][] THREE = {{-1, 20, 9999, 9999, 20}, {1, 3, 5, 4, 6}, {-1, 4, 5, 3, 6}};

    public static void main(String[] args) {
        Due.test("Promise 5, 0 to 3 the labels", Promise05LookTest::labels);
        Due.test("Promise 5, 4 the sign", Promise05LookTest::sign);
        Due.test("Promise 5, the first crossing", Promise05LookTest::first);
        Due.test("Promise 5, the last crossing", Promise05LookTest::last);
        Due.test("Promise 5, the last of twenty", Promise05LookTest::lastOfTwenty);
        Due.test("Promise 5, 0 before the first crossing", () -> isNoCrossing(-1));
        Due.test("Promise 5, 0 behind the last crossing", () -> isNoCrossing(3));
        Due.test("Promise 5, 0 far from the crossings", Promise05LookTest::farCrossings);
        Due.test("Promise 5, 0 for what -1", () -> isNoWhat(-1));
        Due.test("Promise 5, 0 for what 5", () -> isNoWhat(5));
        Due.test("Promise 5, 0 for whats far off", Promise05LookTest::farWhats);
        Due.test("Promise 5, those that were put in are not looked at", Promise05LookTest::putIn);
        Due.test("Promise 5, one that is gone is not there", Promise05LookTest::gone);
        Due.end();
    }

    private static void labels() {
        DiagramMoves moves = Examples.of(0, THREE);
        for (int k = 0; k < 3; k++) {
            for (int what = 0; what < 4; what++) {
                Due.is("look(" + k + ", " + what + ")", THREE[k][1 + what], moves.look(k, what));
            }
        }
    }

    private static void sign() {
        DiagramMoves moves = Examples.of(0, THREE);
        for (int k = 0; k < 3; k++) {
            Due.is("look(" + k + ", 4)", THREE[k][0], moves.look(k, 4));
        }
    }

    private static void first() {
        Due.text("of one", "1:2,2,1,1", Examples.crossing(Examples.of(0, Examples.EIGHT), 0));
        Due.text("of three", "-1:20,9999,9999,20", Examples.crossing(Examples.of(5, THREE), 0));
    }

    private static void last() {
        Due.text("of three", "-1:4,5,3,6", Examples.crossing(Examples.of(5, THREE), 2));
        DiagramMoves moves = Examples.of(1, THREE);
        Due.is("twist(0, -1, true)", true, moves.twist(0, -1, true));
        Due.text("twisted", "-1:1,2,2,1", Examples.crossing(moves, 3));
    }

    private static void lastOfTwenty() {
        DiagramMoves moves = Examples.of(0, Examples.eights(20));
        Due.text("crossing 19", "1:40,40,39,39", Examples.crossing(moves, 19));
        for (int what = -1; what <= 5; what++) {
            Due.is("look(20, " + what + ")", 0, moves.look(20, what));
        }
        Due.is("look(19, 5)", 0, moves.look(19, 5));
        Due.is("look(19, -1)", 0, moves.look(19, -1));
    }

    private static void isNoCrossing(int k) {
        for (int what = -1; what <= 5; what++) {
            int number = what;
            Refused.call("look(" + k + ", " + what + ")", 0, () -> Examples.holding(1, THREE),
                    m -> m.look(k, number));
        }
    }

    private static void farCrossings() {
        int[] others = {-2, 4, 20, 21, 1 << 30, -(1 << 30), Integer.MAX_VALUE, Integer.MIN_VALUE};
        for (int k : others) {
            isNoCrossing(k);
        }
    }

    private static void isNoWhat(int what) {
        for (int k = 0; k < 3; k++) {
            int number = k;
            Refused.call("look(" + k + ", " + what + ")", 0, () -> Examples.holding(1, THREE),
                    m -> m.look(number, what));
        }
    }

    private static void farWhats() {
        int[] others = {-2, 6, 7, 8, -4, 256, Integer.MAX_VALUE, Integer.MIN_VALUE};
        for (int what : others) {
            isNoWhat(what);
        }
    }

    private static void putIn() {
        DiagramMoves moves = Examples.holding(0);
        Due.is("look(0, 0)", 0, moves.look(0, 0));
        Due.is("look(0, 4)", 0, moves.look(0, 4));
        moves = Examples.holding(0, Examples.EIGHT);
        Due.text("crossing 0", "1:2,2,1,1", Examples.crossing(moves, 0));
        Due.text("crossing 1", "0:0,0,0,0", Examples.crossing(moves, 1));
        Due.is("check(0)", 0, moves.check(0));
        Due.text("crossing 1 after a check", "1:31,31,17,17", Examples.crossing(moves, 1));
    }

    private static void gone() {
        DiagramMoves moves = Examples.of(0, THREE);
        Due.is("undo of the first one", 1, moves.undo(Examples.faceWith(moves, 20)));
        Due.text("the others have moved up", "1:3,5,4,6 -1:4,5,3,6", Examples.crossings(moves));
        Due.text("crossing 2", "0:0,0,0,0", Examples.crossing(moves, 2));
        Due.is("check(0) of nothing", 0, moves.check(0));
        Due.text("crossing 0", "0:0,0,0,0", Examples.crossing(moves, 0));
    }
}
