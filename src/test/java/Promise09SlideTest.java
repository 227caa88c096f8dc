/** Promise 9: slide. */
public final class Promise09SlideTest {
    public static void main(String[] args) {
        Due.test("Promise 9, at P a becomes m, m becomes b, at Q m a, b m", Promise09SlideTest::asWritten);
        Due.test("Promise 9, every kind of triangle", Promise09SlideTest::everyTriangle);
        Due.test("Promise 9, crossings keep their signs", Promise09SlideTest::signsAreKept);
        Due.test("Promise 9, a and b are one edge", Promise09SlideTest::aIsB);
        Due.test("Promise 9, and back", Promise09SlideTest::andBack);
        Due.test("Promise 9, labels far apart", Promise09SlideTest::labelsFarApart);
        Due.test("Promise 9, what was put in stays", Promise09SlideTest::whatWasPutIn);
        Due.test("Promise 9, refused: one dart", Promise09SlideTest::oneDart);
        Due.test("Promise 9, refused: two darts, one edge upper, one lower", Promise09SlideTest::twoDarts);
        Due.test("Promise 9, refused: two darts, edges mixed", Promise09SlideTest::twoMixed);
        Due.test("Promise 9, refused: two darts at one crossing", Promise09SlideTest::twoAtOne);
        Due.test("Promise 9, refused: three darts, all mixed", Promise09SlideTest::threeMixed);
        Due.test("Promise 9, refused: three darts at two crossings, all mixed", Promise09SlideTest::threeMixedAtTwo);
        Due.test("Promise 9, refused: three darts at two crossings, upper, lower, mixed",
                Promise09SlideTest::threeAtTwo);
        Due.test("Promise 9, refused: four darts and more", Promise09SlideTest::fourDarts);
        Due.test("Promise 9, refused: no such face", Promise09SlideTest::noSuchFace);
        Due.test("Promise 9, refused: nothing but circles", Promise09SlideTest::circlesAlone);
        Due.end();
    }

    private static void isSlid(String what, String wants, int face, int[]... crossings) {
        DiagramMoves moves = Examples.of(1, crossings);
        Due.is(what + ": slide(" + face + ")", true, moves.slide(face));
        Due.text(what, wants, Examples.crossings(moves));
        Due.is(what + ": many(1)", 1, moves.many(1));
        Examples.isDiagram(what, moves);
    }

    private static void isRefused(int face, int[]... crossings) {
        Refused.move("slide(" + face + ")", () -> Examples.holding(2, crossings), m -> m.slide(face));
    }

    private static void asWritten() {
        isSlid("edges 2, 6, 10", "-1:7,4,8,1 1:6,2,7,1 1:12,4,9,3 -1:9,2,10,3 -1:11,8,12,5 1:10,6,11,5", 2,
                Examples.THREE_RINGS);
        isSlid("edges 1, 10, 7", "-1:6,1,7,2 1:5,3,6,2 1:12,4,9,3 -1:9,4,10,1 -1:11,8,12,5 1:10,8,11,7", 0,
                Examples.THREE_RINGS);
        isSlid("edges 4, 12, 8", "-1:8,3,5,4 1:5,3,6,2 1:11,1,12,4 -1:10,1,11,2 -1:12,7,9,8 1:9,7,10,6", 7,
                Examples.THREE_RINGS);
    }

    /** Six orders of the rings' heights, and eight faces each: every way that three edges can go. */
    private static void everyTriangle() {
        for (int order = 0; order < 8; order++) {
            int[][] rings = Examples.rings((order & 1) != 0, (order & 2) != 0, (order & 4) != 0);
            for (int face = 0; face < 8; face++) {
                PlainModel model = new PlainModel();
                for (int[] c : rings) {
                    model.crossing(c[0], c[1], c[2], c[3], c[4]);
                }
                model.check(0);
                DiagramMoves moves = Examples.of(0, rings);
                boolean inALoop = order == 2 || order == 5;
                Due.is("the model slides", !inALoop, model.slide(face));
                Due.is("slide(" + face + ")", !inALoop, moves.slide(face));
                StringBuilder wants = new StringBuilder();
                for (int[] c : model.crossings()) {
                    wants.append(wants.length() == 0 ? "" : " ").append(c[0]).append(':')
                            .append(c[1]).append(',').append(c[2]).append(',').append(c[3]).append(',').append(c[4]);
                }
                Due.text("order " + order + ", face " + face, wants.toString(), Examples.crossings(moves));
                Examples.isDiagram("order " + order + ", face " + face, moves);
            }
        }
    }

    private static void signsAreKept() {
        for (int face = 0; face < 8; face++) {
            DiagramMoves moves = Examples.of(0, Examples.THREE_RINGS);
            Due.is("slide(" + face + ")", true, moves.slide(face));
            for (int k = 0; k < 6; k++) {
                Due.is("sign of " + k, Examples.THREE_RINGS[k][0], moves.look(k, 4));
            }
            Due.is("many(0)", 6, moves.many(0));
            Due.is("many(3)", 8, moves.many(3));
            Due.is("many(4)", 3, moves.many(4));
        }
    }

    private static void aIsB() {
        isSlid("a ring on a kink", "1:2,6,3,5 -1:3,6,4,5 -1:4,1,1,2", 3, Examples.RING_ON_KINK);
        int[][] r = Examples.RING_ON_KINK;
        isSlid("a ring on a kink, its crossings in another order", "-1:4,1,1,2 -1:3,6,4,5 1:2,6,3,5", 3,
                r[2], r[1], r[0]);
    }

    private static void andBack() {
        int[][][] examples = {Examples.THREE_RINGS, Examples.RING_ON_KINK};
        for (int[][] example : examples) {
            String before = Examples.all(Examples.of(0, example));
            for (int face = 0; face < example.length + 2; face++) {
                DiagramMoves moves = Examples.of(0, example);
                if (moves.pattern(face) == 3) {
                    int dart = moves.face(face, 0);
                    Due.is("slide(" + face + ")", true, moves.slide(face));
                    int back = Examples.faceWith(moves, -dart);
                    Due.is("slide(" + back + ")", true, moves.slide(back));
                    Due.text("as it was", before, Examples.all(moves));
                }
            }
        }
    }

    private static void labelsFarApart() {
        int[][] crossings = new int[3][];
        for (int k = 0; k < 3; k++) {
            int[] c = Examples.RING_ON_KINK[k];
            crossings[k] = new int[] {c[0], 10000 - c[1], 10000 - c[2], 10000 - c[3], 10000 - c[4]};
        }
        DiagramMoves moves = Examples.of(0, crossings);
        Due.is("slide", true, moves.slide(Examples.faceWith(moves, -9998)));
        Due.text("slid", "1:9998,9994,9997,9995 -1:9997,9994,9996,9995 -1:9996,9999,9999,9998",
                Examples.crossings(moves));
    }

    private static void whatWasPutIn() {
        DiagramMoves moves = Examples.holding(1, Examples.THREE_RINGS);
        Due.is("slide(2)", true, moves.slide(2));
        Examples.stillHolds("slide(2)", moves);
    }

    private static void oneDart() {
        isRefused(0, Examples.EIGHT);
        isRefused(2, Examples.EIGHT);
        isRefused(4, Examples.RING_ON_KINK);
    }

    private static void twoDarts() {
        for (int face = 0; face < 4; face++) {
            isRefused(face, Examples.TWO_RINGS);
        }
        isRefused(0, Examples.FINGER_ON_ITSELF);
        isRefused(0, Examples.RING_ON_KINK);
        isRefused(1, Examples.RING_ON_KINK);
    }

    private static void twoMixed() {
        for (int face = 0; face < 4; face++) {
            isRefused(face, Examples.HOPF);
        }
        isRefused(0, Examples.TREFOIL);
    }

    private static void twoAtOne() {
        isRefused(1, Examples.EIGHT);
    }

    private static void threeMixed() {
        isRefused(1, Examples.TREFOIL);
        isRefused(2, Examples.TREFOIL);
        for (int face = 0; face < 8; face++) {
            isRefused(face, Examples.BORROMEAN);
        }
    }

    private static void threeMixedAtTwo() {
        isRefused(0, Examples.CHAIN);
        isRefused(2, Examples.CHAIN);
    }

    private static void threeAtTwo() {
        isRefused(0, Examples.UNEVEN_CHAIN);
        isRefused(1, Examples.UNEVEN_CHAIN);
    }

    private static void fourDarts() {
        isRefused(2, Examples.RING_ON_KINK);
        isRefused(1, Examples.FINGER_ON_ITSELF);
        Refused.move("thirty darts: slide(0)", () -> Examples.twistedCircle(20), m -> m.slide(0));
    }

    private static void noSuchFace() {
        int[] faces = {-1, 8, 9, 80, 81, Integer.MAX_VALUE, Integer.MIN_VALUE};
        for (int face : faces) {
            isRefused(face, Examples.THREE_RINGS);
        }
        isRefused(60, Examples.eights(20));
        DiagramMoves moves = Examples.of(0, Examples.RING_ON_KINK);
        Due.is("simplify()", 3, moves.simplify());
        Due.is("slide(3), which is gone", false, moves.slide(3));
        Due.is("many(1)", 2, moves.many(1));
    }

    private static void circlesAlone() {
        isRefused(0);
        isRefused(-1);
    }
}
