/** Promise 3: check. */
public final class Promise03CheckTest {
    /** Stands thrice, and another one once. */
    private static final int[] NOT_1 = {1, 101, 101, 101, 102};
    /** Both labels stand twice, but 103 where strands go in, 104 where they go out. */
    private static final int[] NOT_2 = {1, 103, 104, 104, 103};
    private static final int[] NOT_3 = {1, 105, 106, 105, 106};
    private static final int[] RIGHT = {1, 108, 108, 107, 107};

    public static void main(String[] args) {
        Due.test("Promise 3, 0: the diagram from now on", Promise03CheckTest::diagramFromNowOn);
        Due.test("Promise 3, circles 0", () -> circlesFit(0));
        Due.test("Promise 3, circles 20", () -> circlesFit(20));
        Due.test("Promise 3, circles -1", () -> circlesAreRefused(-1));
        Due.test("Promise 3, circles 21", () -> circlesAreRefused(21));
        Due.test("Promise 3, circles far off", Promise03CheckTest::farCircles);
        Due.test("Promise 3, wrong circles before wrong crossings", Promise03CheckTest::circlesBeforeCrossings);
        Due.test("Promise 3, nothing put in", Promise03CheckTest::nothingPutIn);
        Due.test("Promise 3, twenty crossings", Promise03CheckTest::twentyCrossings);
        Due.test("Promise 3, (1) a label once", Promise03CheckTest::labelOnce);
        Due.test("Promise 3, (1) a label thrice", Promise03CheckTest::labelThrice);
        Due.test("Promise 3, (1) a label four times", Promise03CheckTest::labelFourTimes);
        Due.test("Promise 3, (2) in and in, out and out", Promise03CheckTest::inAndIn);
        Due.test("Promise 3, (3) not on a sphere", Promise03CheckTest::notOnASphere);
        Due.test("Promise 3, the first of two that are not so", Promise03CheckTest::twoFaults);
        Due.test("Promise 3, the first of all three", Promise03CheckTest::threeFaults);
        Due.test("Promise 3, the diagram stays", Promise03CheckTest::diagramStays);
        Due.test("Promise 3, what was put in is gone after 0", Promise03CheckTest::goneAfterADiagram);
        Due.test("Promise 3, what was put in is gone after 1, 2, 3", Promise03CheckTest::goneAfterAFault);
        Due.test("Promise 3, a diagram put in twice", Promise03CheckTest::sameOneTwice);
        Due.end();
    }

    private static void isChecked(String what, int want, int[]... crossings) {
        DiagramMoves moves = new DiagramMoves();
        Examples.put(moves, crossings);
        Due.is(what, want, moves.check(0));
        for (int i = crossings.length - 1; i >= 0; i--) {
            Examples.put(moves, crossings[i]);
        }
        Due.is(what + ", from the last to the first", want, moves.check(0));
    }

    private static void diagramFromNowOn() {
        DiagramMoves moves = Examples.of(5, Examples.TREFOIL);
        Examples.put(moves, Examples.HOPF);
        Due.is("before the check many(0)", 3, moves.many(0));
        Due.is("before the check many(1)", 5, moves.many(1));
        Due.is("check(2)", 0, moves.check(2));
        Due.text("crossings", "1:3,2,4,1 1:2,3,1,4", Examples.crossings(moves));
        Due.text("all", Examples.all(Examples.of(2, Examples.HOPF)), Examples.all(moves));
    }

    private static void circlesFit(int circles) {
        DiagramMoves moves = Examples.holding(7, Examples.TREFOIL);
        Due.is("check(" + circles + ")", 0, moves.check(circles));
        Due.is("many(0)", 2, moves.many(0));
        Due.is("many(1)", circles, moves.many(1));
        Due.is("many(6)", 0, moves.many(6));
    }

    private static void circlesAreRefused(int circles) {
        String call = "check(" + circles + ")";
        Refused.call(call, -1, DiagramMoves::new, m -> m.check(circles));
        Refused.call(call + " of a diagram", -1, () -> Examples.holding(3, Examples.TREFOIL), m -> m.check(circles));
        DiagramMoves moves = Examples.holding(3, Examples.TREFOIL);
        Due.is(call, -1, moves.check(circles));
        Examples.stillHolds(call, moves);
    }

    private static void farCircles() {
        int[] noCircles = {-2, 22, 256, 65536, -256, Integer.MAX_VALUE, Integer.MIN_VALUE};
        for (int circles : noCircles) {
            circlesAreRefused(circles);
        }
    }

    private static DiagramMoves holdingFaults(int[]... crossings) {
        DiagramMoves moves = Examples.of(3, Examples.TREFOIL);
        Examples.put(moves, crossings);
        return moves;
    }

    private static void circlesBeforeCrossings() {
        int[][] faults = {NOT_1, NOT_2, NOT_3};
        for (int i = 0; i < 3; i++) {
            int[] crossing = faults[i];
            Refused.call("check(-1)", -1, () -> holdingFaults(crossing), m -> m.check(-1));
            Refused.call("check(21)", -1, () -> holdingFaults(crossing), m -> m.check(21));
            DiagramMoves moves = holdingFaults(crossing);
            Due.is("check(21)", -1, moves.check(21));
            Due.is("check(20)", i + 1, moves.check(20));
        }
    }

    private static void nothingPutIn() {
        DiagramMoves moves = Examples.of(4, Examples.TREFOIL);
        Due.is("check(0)", 0, moves.check(0));
        Due.text("all", Examples.all(new DiagramMoves()), Examples.all(moves));
        Due.is("check(20)", 0, moves.check(20));
        Due.is("many(0)", 0, moves.many(0));
        Due.is("many(1)", 20, moves.many(1));
        Due.is("many(3)", 0, moves.many(3));
    }

    private static void twentyCrossings() {
        int[][] crossings = Examples.eights(20);
        DiagramMoves moves = Examples.of(20, crossings);
        Due.is("many(0)", 20, moves.many(0));
        Due.text("the last one", "1:40,40,39,39", Examples.crossing(moves, 19));
        Due.is("many(3)", 60, moves.many(3));
        crossings[19] = NOT_1;
        isChecked("the last one not (1)", 1, crossings);
        crossings[19] = NOT_2;
        isChecked("the last one not (2)", 2, crossings);
        crossings[19] = NOT_3;
        isChecked("the last one not (3)", 3, crossings);
        crossings[19] = new int[] {-1, 101, 101, 102, 102};
        isChecked("the last one with the other sign", 2, crossings);
        crossings[19] = new int[] {1, 1, 1, 2, 2};
        isChecked("the last one with the first one's labels", 1, crossings);
    }

    private static void labelOnce() {
        isChecked("all four", 1, new int[] {1, 1, 2, 3, 4});
        isChecked("the least and the greatest", 1, new int[] {1, 1, 5, 5, 9999});
        isChecked("two of eight places", 1, RIGHT, new int[] {1, 2, 2, 1, 3});
        isChecked("one each of two crossings", 1, new int[] {1, 2, 2, 1, 3}, new int[] {1, 4, 5, 5, 6});
    }

    private static void labelThrice() {
        isChecked("and one once", 1, NOT_1);
        isChecked("behind one that stands once", 1, new int[] {1, 1, 2, 2, 2});
        isChecked("at two crossings", 1, new int[] {1, 2, 2, 1, 1}, new int[] {1, 2, 4, 3, 3});
        isChecked("two of them thrice, one twice", 1, new int[] {1, 2, 2, 2, 1}, new int[] {1, 3, 3, 1, 1});
    }

    private static void labelFourTimes() {
        isChecked("at one crossing", 1, new int[] {1, 1, 1, 1, 1});
        isChecked("at two crossings", 1, new int[] {1, 5, 5, 7, 7}, new int[] {1, 7, 7, 8, 8});
        isChecked("at four crossings", 1, new int[] {1, 1, 2, 3, 9}, new int[] {1, 2, 3, 4, 9},
                new int[] {1, 4, 5, 6, 9}, new int[] {1, 5, 6, 1, 9});
        isChecked("two labels", 1, new int[] {1, 1, 1, 2, 2}, new int[] {1, 1, 1, 2, 2});
    }

    private static void inAndIn() {
        isChecked("sign 1, 0 and 3, 1 and 2", 2, NOT_2);
        isChecked("sign -1, 0 and 1, 2 and 3", 2, new int[] {-1, 1, 1, 2, 2});
        isChecked("sign 1, 0 and 1, 2 and 3", 0, new int[] {1, 1, 1, 2, 2});
        isChecked("sign -1, 0 and 3, 1 and 2", 0, new int[] {-1, 1, 2, 2, 1});
        isChecked("behind a right one", 2, RIGHT, NOT_2);
        isChecked("two crossings, the lower strand turned at one", 2,
                new int[] {1, 3, 2, 4, 1}, new int[] {1, 1, 3, 2, 4});
    }

    private static void notOnASphere() {
        isChecked("sign 1", 3, NOT_3);
        isChecked("sign -1", 3, new int[] {-1, 105, 106, 105, 106});
        isChecked("beside a piece that lies on one", 3, RIGHT, NOT_3);
        isChecked("two such pieces", 3, NOT_3, Examples.TORUS);
        isChecked("beside a Hopf link", 3, NOT_3, Examples.HOPF[0], Examples.HOPF[1]);
        isChecked("a trefoil, one crossing turned over", 3,
                new int[] {-1, 1, 4, 2, 5}, Examples.TREFOIL[1], Examples.TREFOIL[2]);
        isChecked("a trefoil", 0, Examples.TREFOIL);
    }

    private static void twoFaults() {
        isChecked("(1) and (2)", 1, NOT_1, NOT_2);
        isChecked("(1) and (3)", 1, NOT_1, NOT_3);
        isChecked("(2) and (3)", 2, NOT_2, NOT_3);
        isChecked("(1) and (2) behind a right one", 1, RIGHT, NOT_2, NOT_1);
        isChecked("(2) and (3) behind a right one", 2, RIGHT, NOT_3, NOT_2);
    }

    private static void threeFaults() {
        isChecked("(1), (2), (3)", 1, NOT_1, NOT_2, NOT_3);
        isChecked("(2), (1), (3)", 1, NOT_2, NOT_1, NOT_3);
        isChecked("(2), (3), (1)", 1, NOT_2, NOT_3, NOT_1);
    }

    private static void diagramStays() {
        int[][] faults = {NOT_1, NOT_2, NOT_3};
        for (int i = 0; i < 3; i++) {
            DiagramMoves moves = Examples.of(3, Examples.THREE_RINGS);
            String before = Examples.all(moves);
            Examples.put(moves, RIGHT, faults[i]);
            Due.is("check(9)", i + 1, moves.check(9));
            Due.text("check(9), then all", before, Examples.all(moves));
            Due.is("check(9), then slide(0)", true, moves.slide(0));
        }
    }

    private static void goneAfterADiagram() {
        DiagramMoves moves = Examples.holding(0);
        Due.is("check(0)", 0, moves.check(0));
        Due.is("many(6)", 0, moves.many(6));
        Due.is("check(1)", 0, moves.check(1));
        Due.is("many(0)", 0, moves.many(0));
        Due.is("the next crossing", 1, moves.crossing(1, 2, 2, 1, 1));
        Due.is("check(1)", 0, moves.check(1));
        Due.text("that one alone", "1:2,2,1,1", Examples.crossings(moves));
    }

    private static void goneAfterAFault() {
        int[][] faults = {NOT_1, NOT_2, NOT_3};
        for (int i = 0; i < 3; i++) {
            DiagramMoves moves = Examples.of(3, Examples.TREFOIL);
            Examples.put(moves, RIGHT, faults[i]);
            Due.is("check(0)", i + 1, moves.check(0));
            Due.is("check(0), then many(6)", 0, moves.many(6));
            Due.is("the next crossing", 1, moves.crossing(1, 2, 2, 1, 1));
            Due.is("check(0) of that", 0, moves.check(0));
            Due.text("that one alone", "1:2,2,1,1", Examples.crossings(moves));
        }
    }

    private static void sameOneTwice() {
        DiagramMoves moves = Examples.of(0, Examples.TREFOIL);
        Examples.put(moves, Examples.TREFOIL);
        Due.is("check(1)", 0, moves.check(1));
        Due.text("all", Examples.all(Examples.of(1, Examples.TREFOIL)), Examples.all(moves));
        Examples.put(moves, Examples.TREFOIL);
        Examples.put(moves, Examples.TREFOIL);
        Due.is("both at once", 1, moves.check(1));
    }
}
