/** Promise 7: pattern. */
public final class Promise07PatternTest {
    public static void main(String[] args) {
        Due.test("Promise 7, 1: one dart", Promise07PatternTest::oneDart);
        Due.test("Promise 7, 2: two darts, one edge upper, one lower", Promise07PatternTest::twoDarts);
        Due.test("Promise 7, 0: two darts at two crossings, edges mixed", Promise07PatternTest::twoMixed);
        Due.test("Promise 7, 0: two darts at one crossing", Promise07PatternTest::twoAtOne);
        Due.test("Promise 7, 3: three darts, upper, lower, mixed", Promise07PatternTest::threeDarts);
        Due.test("Promise 7, 0: three darts at three crossings, all mixed", Promise07PatternTest::threeMixed);
        Due.test("Promise 7, 0: three darts at two crossings, all mixed", Promise07PatternTest::threeMixedAtTwo);
        Due.test("Promise 7, 0: three darts at two crossings, upper, lower, mixed", Promise07PatternTest::threeAtTwo);
        Due.test("Promise 7, 0: four darts, upper, lower and mixed ones", Promise07PatternTest::fourDarts);
        Due.test("Promise 7, 0: thirty darts", Promise07PatternTest::thirtyDarts);
        Due.test("Promise 7, the first and the last face", Promise07PatternTest::firstAndLast);
        Due.test("Promise 7, -1 before the first face", Promise07PatternTest::beforeTheFirst);
        Due.test("Promise 7, -1 behind the last face", Promise07PatternTest::behindTheLast);
        Due.test("Promise 7, -1 far from the faces", Promise07PatternTest::farOff);
        Due.test("Promise 7, -1 where there are circles alone", Promise07PatternTest::circles);
        Due.test("Promise 7, what can be done, and nothing else", Promise07PatternTest::whatCanBeDone);
        Due.end();
    }

    private static void are(String what, String faces, String patterns, int[]... crossings) {
        DiagramMoves moves = Examples.of(0, crossings);
        Due.text(what + ": faces", faces, Examples.faces(moves));
        Due.text(what + ": patterns", patterns, Examples.patterns(moves));
    }

    private static void oneDart() {
        are("sign 1, the first pass below", "1 -1,2 -2", "1 0 1", new int[] {1, 2, 2, 1, 1});
        are("sign 1, the first pass above", "1,-2 -1 2", "0 1 1", new int[] {1, 1, 1, 2, 2});
        are("sign -1, the first pass below", "1,-2 -1 2", "0 1 1", new int[] {-1, 2, 1, 1, 2});
        are("sign -1, the first pass above", "1 -1,2 -2", "1 0 1", new int[] {-1, 1, 2, 2, 1});
    }

    private static void twoDarts() {
        are("two rings", "1,4 -1,3 2,-4 -2,-3", "2 2 2 2", Examples.TWO_RINGS);
        are("a strand with itself", "1,4 -1,2,-4,3 -2 -3", "2 0 1 1", Examples.FINGER_ON_ITSELF);
        are("a ring on a kink", "1,-6 -1,-5 2,-3,4,6 -2,5,-4 3", "2 2 0 3 1", Examples.RING_ON_KINK);
    }

    private static void twoMixed() {
        are("Hopf link", "1,4 -1,3 2,-4 -2,-3", "0 0 0 0", Examples.HOPF);
        are("a strand with itself", "1,4 -1,2,-4,3 -2 -3", "0 0 1 1",
                new int[] {1, 2, 2, 1, 4}, new int[] {1, 3, 3, 4, 1});
    }

    private static void twoAtOne() {
        Due.is("left", 0, Examples.of(0, Examples.EIGHT).pattern(1));
        Due.is("right", 0, Examples.of(0, new int[] {1, 1, 1, 2, 2}).pattern(0));
    }

    private static void threeDarts() {
        for (int order = 0; order < 8; order++) {
            boolean aOnB = (order & 1) != 0;
            boolean aOnC = (order & 2) != 0;
            boolean bOnC = (order & 4) != 0;
            boolean inALoop = aOnB == bOnC && aOnC != aOnB;
            String wants = inALoop ? "0 0 0 0 0 0 0 0" : "3 3 3 3 3 3 3 3";
            are("rings, order " + order, "1,-10,7 -1,8,-11 2,6,10 -2,11,5 3,9,-6 -3,-5,12 4,-7,-9 -4,-12,-8",
                    wants, Examples.rings(aOnB, aOnC, bOnC));
        }
        Due.is("a ring on a kink", 3, Examples.of(0, Examples.RING_ON_KINK).pattern(3));
    }

    private static void threeMixed() {
        are("trefoil", "1,-4 -1,-3,-5 2,6,4 -2,5 3,-6", "0 0 0 0 0", Examples.TREFOIL);
        are("Borromean rings", "1,-10,7 -1,8,-11 2,6,10 -2,11,5 3,9,-6 -3,-5,12 4,-7,-9 -4,-12,-8",
                "0 0 0 0 0 0 0 0", Examples.BORROMEAN);
    }

    private static void threeMixedAtTwo() {
        are("a chain", "1,-9,-2 -1 2,-5,9 5", "0 1 0 1", Examples.CHAIN);
    }

    private static void threeAtTwo() {
        are("an uneven chain", "1,4,-2 -1,-4,3 2 -3", "0 0 1 1", Examples.UNEVEN_CHAIN);
    }

    private static void fourDarts() {
        DiagramMoves moves = Examples.of(0, Examples.RING_ON_KINK);
        Due.text("the face", "2,-3,4,6", Examples.face(moves, 2));
        Due.is("pattern(2)", 0, moves.pattern(2));
    }

    private static void thirtyDarts() {
        DiagramMoves moves = Examples.twistedCircle(20);
        Due.is("face(0, -1)", 30, moves.face(0, -1));
        Due.is("pattern(0)", 0, moves.pattern(0));
        Due.is("pattern(1)", 0, moves.pattern(1));
        Due.is("pattern(2)", 1, moves.pattern(2));
    }

    private static void firstAndLast() {
        Due.is("the first", 1, Examples.of(0, Examples.EIGHT).pattern(0));
        Due.is("the last", 1, Examples.of(0, Examples.EIGHT).pattern(2));
        Due.is("the last of sixty", 1, Examples.of(0, Examples.eights(20)).pattern(59));
    }

    private static void isNoFace(int face, int[]... crossings) {
        Refused.call("pattern(" + face + ")", -1, () -> Examples.holding(2, crossings), m -> m.pattern(face));
    }

    private static void beforeTheFirst() {
        isNoFace(-1, Examples.EIGHT);
        isNoFace(-1, Examples.TREFOIL);
        isNoFace(-1, Examples.eights(20));
    }

    private static void behindTheLast() {
        isNoFace(3, Examples.EIGHT);
        isNoFace(5, Examples.TREFOIL);
        isNoFace(60, Examples.eights(20));
        DiagramMoves moves = Examples.of(0, Examples.CHAIN);
        Due.is("pattern(3)", 1, moves.pattern(3));
        Due.is("undo(1)", 1, moves.undo(1));
        Due.is("pattern(3) after an undo", -1, moves.pattern(3));
    }

    private static void farOff() {
        int[] others = {-2, 80, 81, 256, Integer.MAX_VALUE, Integer.MIN_VALUE};
        for (int face : others) {
            isNoFace(face, Examples.TREFOIL);
        }
    }

    private static void circles() {
        isNoFace(0);
        isNoFace(1);
        isNoFace(-1);
    }

    private static void whatCanBeDone() {
        int[][][] examples = {Examples.EIGHT, Examples.TREFOIL, Examples.HOPF, Examples.TWO_RINGS, Examples.CHAIN,
            Examples.UNEVEN_CHAIN, Examples.RING_ON_KINK, Examples.THREE_RINGS, Examples.BORROMEAN,
            Examples.FINGER_ON_ITSELF, Examples.RING_ON_TREFOIL, Examples.RING_BELOW_TREFOIL};
        for (int[][] example : examples) {
            int faces = Examples.of(0, example).many(3);
            for (int face = -1; face <= faces; face++) {
                int pattern = Examples.of(0, example).pattern(face);
                int undone = pattern == 1 || pattern == 2 ? pattern : 0;
                Due.is("pattern " + pattern + ": undo", undone, Examples.of(0, example).undo(face));
                Due.is("pattern " + pattern + ": slide", pattern == 3, Examples.of(0, example).slide(face));
            }
        }
    }
}
