/** Promise 1: a new object. */
public final class Promise01NewObjectTest {
    public static void main(String[] args) {
        Due.test("Promise 1, no crossings put in", Promise01NewObjectTest::noCrossingsPutIn);
        Due.test("Promise 1, a diagram without crossings", Promise01NewObjectTest::noCrossings);
        Due.test("Promise 1, a diagram without circles", Promise01NewObjectTest::noCircles);
        Due.test("Promise 1, each number of it", Promise01NewObjectTest::numbers);
        Due.test("Promise 1, no crossing to look at", Promise01NewObjectTest::nothingToLookAt);
        Due.test("Promise 1, no face", Promise01NewObjectTest::noFace);
        Due.test("Promise 1, no move", Promise01NewObjectTest::noMove);
        Due.test("Promise 1, every call can be the first one", Promise01NewObjectTest::firstCalls);
        Due.test("Promise 1, another object has nothing to do with it", Promise01NewObjectTest::twoObjects);
        Due.end();
    }

    private static void noCrossingsPutIn() {
        DiagramMoves moves = new DiagramMoves();
        Due.is("many(6)", 0, moves.many(6));
        Due.is("check(0)", 0, moves.check(0));
        Due.is("check(0), then many(0)", 0, moves.many(0));
        Due.is("the first crossing", 1, new DiagramMoves().crossing(1, 2, 2, 1, 1));
    }

    private static void noCrossings() {
        DiagramMoves moves = new DiagramMoves();
        Due.is("many(0)", 0, moves.many(0));
        Due.is("many(2)", 0, moves.many(2));
        Due.is("many(3)", 0, moves.many(3));
        Due.is("many(7)", 1, moves.many(7));
    }

    private static void noCircles() {
        DiagramMoves moves = new DiagramMoves();
        Due.is("many(1)", 0, moves.many(1));
        Due.is("many(4)", 0, moves.many(4));
        Due.is("many(5)", 0, moves.many(5));
        Refused.move("twist(0, 1, true)", DiagramMoves::new, m -> m.twist(0, 1, true));
        Refused.move("twist(0, -1, false)", DiagramMoves::new, m -> m.twist(0, -1, false));
    }

    private static void numbers() {
        int[] wants = {-1000, 0, 0, 0, 0, 0, 0, 0, 1, -1000};
        for (int what = -1; what <= 8; what++) {
            int number = what;
            Refused.call("many(" + what + ")", wants[what + 1], DiagramMoves::new, m -> m.many(number));
        }
    }

    private static void nothingToLookAt() {
        DiagramMoves moves = new DiagramMoves();
        for (int k = -1; k <= 1; k++) {
            for (int what = -1; what <= 5; what++) {
                Due.is("look(" + k + ", " + what + ")", 0, moves.look(k, what));
            }
        }
    }

    private static void noFace() {
        DiagramMoves moves = new DiagramMoves();
        for (int k = -1; k <= 1; k++) {
            for (int i = -2; i <= 1; i++) {
                Due.is("face(" + k + ", " + i + ")", 0, moves.face(k, i));
            }
            Due.is("pattern(" + k + ")", -1, moves.pattern(k));
        }
    }

    private static void noMove() {
        for (int n = -1; n <= 1; n++) {
            int number = n;
            Refused.call("undo(" + n + ")", 0, DiagramMoves::new, m -> m.undo(number));
            Refused.move("slide(" + n + ")", DiagramMoves::new, m -> m.slide(number));
            Refused.move("twist(" + n + ", 1, true)", DiagramMoves::new, m -> m.twist(number, 1, true));
            Refused.move("push(" + n + ", false, 2, false, true)", DiagramMoves::new,
                    m -> m.push(number, false, 2, false, true));
        }
        Refused.call("simplify()", 0, DiagramMoves::new, DiagramMoves::simplify);
    }

    private static void firstCalls() {
        Due.is("crossing", 1, new DiagramMoves().crossing(-1, 9999, 1, 1, 9999));
        Due.is("check", 0, new DiagramMoves().check(20));
        Due.is("many", 1, new DiagramMoves().many(7));
        Due.is("look", 0, new DiagramMoves().look(0, 4));
        Due.is("face", 0, new DiagramMoves().face(0, -1));
        Due.is("pattern", -1, new DiagramMoves().pattern(0));
        Due.is("undo", 0, new DiagramMoves().undo(0));
        Due.is("slide", false, new DiagramMoves().slide(0));
        Due.is("twist", false, new DiagramMoves().twist(0, 1, true));
        Due.is("push", false, new DiagramMoves().push(1, false, 2, false, true));
        Due.is("simplify", 0, new DiagramMoves().simplify());
    }

    private static void twoObjects() {
        DiagramMoves first = new DiagramMoves();
        DiagramMoves other = Examples.holding(3, Examples.TREFOIL);
        Due.is("many(0)", 0, first.many(0));
        Due.is("many(1)", 0, first.many(1));
        Due.is("many(6)", 0, first.many(6));
        Due.is("the first crossing", 1, first.crossing(1, 2, 2, 1, 1));
        Due.is("the other one's many(6)", 2, other.many(6));
        Due.is("check(1)", 0, first.check(1));
        Due.is("the other one's many(0)", 3, other.many(0));
    }
}
