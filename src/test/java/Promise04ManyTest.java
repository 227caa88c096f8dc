/** Promise 4: many. */
public final class Promise04ManyTest {
    /** A kink, a Hopf link in two places of the row, and two kinks more. */
    private static final int[][] FOUR_PIECES = {
        {-1, 20, 30, 30, 20}, {1, 3, 2, 4, 1}, {-1, 41, 51, 51, 41}, {1, 2, 3, 1, 4}, {-1, 7, 9, 9, 7}};

    public static void main(String[] args) {
        Due.test("Promise 4, 0 crossings", Promise04ManyTest::crossings);
        Due.test("Promise 4, 1 circles", Promise04ManyTest::circles);
        Due.test("Promise 4, 2 the sum of signs", Promise04ManyTest::sumOfSigns);
        Due.test("Promise 4, 3 faces", Promise04ManyTest::faces);
        Due.test("Promise 4, 4 components (circles, too)", Promise04ManyTest::components);
        Due.test("Promise 4, 5 pieces (likewise)", Promise04ManyTest::pieces);
        Due.test("Promise 4, 6 crossings that were put in", Promise04ManyTest::putIn);
        Due.test("Promise 4, 7 the least free label", Promise04ManyTest::leastFreeLabel);
        Due.test("Promise 4, -1000 for -1", () -> isNone(-1));
        Due.test("Promise 4, -1000 for 8", () -> isNone(8));
        Due.test("Promise 4, -1000 for numbers far off", Promise04ManyTest::farOff);
        Due.test("Promise 4, asking changes nothing", Promise04ManyTest::changesNothing);
        Due.end();
    }

    private static void isMany(String what, int number, int want, DiagramMoves moves) {
        Due.is(what + ": many(" + number + ")", want, moves.many(number));
    }

    private static void crossings() {
        isMany("nothing", 0, 0, Examples.of(0));
        isMany("circles alone", 0, 0, Examples.of(20));
        isMany("one", 0, 1, Examples.of(0, Examples.EIGHT));
        isMany("trefoil", 0, 3, Examples.of(0, Examples.TREFOIL));
        isMany("twenty", 0, 20, Examples.of(0, Examples.eights(20)));
        isMany("those that were put in don't count", 0, 3, Examples.holding(0, Examples.TREFOIL));
        DiagramMoves moves = Examples.of(0, Examples.TREFOIL);
        moves.twist(1, 1, true);
        isMany("twisted", 0, 4, moves);
        moves.simplify();
        isMany("simplified", 0, 3, moves);
    }

    private static void circles() {
        isMany("nothing", 1, 0, Examples.of(0));
        isMany("one", 1, 1, Examples.of(1));
        isMany("twenty", 1, 20, Examples.of(20));
        isMany("components with crossings don't count", 1, 0, Examples.of(0, Examples.HOPF));
        DiagramMoves moves = Examples.of(20, Examples.eights(20));
        Due.is("undo(0)", 1, moves.undo(0));
        isMany("above what check takes", 1, 21, moves);
        Due.is("simplify()", 19, moves.simplify());
        isMany("one from each piece", 1, 40, moves);
        Due.is("twist(0, 1, true)", true, moves.twist(0, 1, true));
        isMany("one twisted", 1, 39, moves);
    }

    private static void sumOfSigns() {
        isMany("nothing", 2, 0, Examples.of(7));
        isMany("one above", 2, 1, Examples.of(0, new int[] {1, 2, 2, 1, 1}));
        isMany("one below", 2, -1, Examples.of(0, new int[] {-1, 2, 1, 1, 2}));
        isMany("one each", 2, 0, Examples.of(0, Examples.TWO_RINGS));
        isMany("trefoil", 2, 3, Examples.of(0, Examples.TREFOIL));
        isMany("four pieces", 2, -1, Examples.of(0, FOUR_PIECES));
        isMany("twenty of 1", 2, 20, Examples.of(0, Examples.eights(20)));
        DiagramMoves moves = Examples.of(20);
        for (int n = 0; n < 20; n++) {
            moves.twist(0, -1, true);
        }
        isMany("twenty of -1", 2, -20, moves);
    }

    private static void faces() {
        isMany("nothing", 3, 0, Examples.of(0));
        isMany("circles alone", 3, 0, Examples.of(20));
        isMany("one crossing", 3, 3, Examples.of(0, Examples.EIGHT));
        isMany("trefoil and circles", 3, 5, Examples.of(20, Examples.TREFOIL));
        isMany("three rings", 3, 8, Examples.of(0, Examples.THREE_RINGS));
        isMany("four pieces", 3, 13, Examples.of(0, FOUR_PIECES));
        isMany("twenty crossings, one piece", 3, 22, Examples.twistedCircle(20));
        isMany("twenty crossings, twenty pieces", 3, 60, Examples.of(0, Examples.eights(20)));
    }

    private static void components() {
        isMany("nothing", 4, 0, Examples.of(0));
        isMany("one circle", 4, 1, Examples.of(1));
        isMany("circles alone", 4, 20, Examples.of(20));
        isMany("one with crossings", 4, 1, Examples.of(0, Examples.TREFOIL));
        isMany("one with crossings and circles", 4, 3, Examples.of(2, Examples.TREFOIL));
        isMany("two in one piece", 4, 2, Examples.of(0, Examples.HOPF));
        isMany("three in one piece", 4, 3, Examples.of(0, Examples.BORROMEAN));
        isMany("two in one piece, one of them with a kink", 4, 2, Examples.of(0, Examples.RING_ON_KINK));
        isMany("five in four pieces and circles", 4, 9, Examples.of(4, FOUR_PIECES));
        isMany("one of forty edges", 4, 1, Examples.twistedCircle(20));
        isMany("twenty and twenty circles", 4, 40, Examples.of(20, Examples.eights(20)));
    }

    private static void pieces() {
        isMany("nothing", 5, 0, Examples.of(0));
        isMany("one circle", 5, 1, Examples.of(1));
        isMany("circles alone", 5, 20, Examples.of(20));
        isMany("one", 5, 1, Examples.of(0, Examples.TREFOIL));
        isMany("two components in one", 5, 1, Examples.of(0, Examples.HOPF));
        isMany("one and circles", 5, 3, Examples.of(2, Examples.HOPF));
        isMany("four and circles", 5, 8, Examples.of(4, FOUR_PIECES));
        isMany("one of twenty crossings", 5, 1, Examples.twistedCircle(20));
        isMany("twenty and twenty circles", 5, 40, Examples.of(20, Examples.eights(20)));
        DiagramMoves moves = Examples.of(0, Examples.eights(2));
        moves.push(1, false, 3, false, true);
        isMany("two made one", 5, 1, moves);
        moves.simplify();
        isMany("and two circles", 5, 2, moves);
    }

    private static void putIn() {
        DiagramMoves moves = Examples.of(0, Examples.TREFOIL);
        isMany("after a check", 6, 0, moves);
        for (int n = 1; n <= 20; n++) {
            moves.crossing(1, n, n, n, n);
            isMany("put in", 6, n, moves);
        }
        moves.crossing(1, 1, 1, 1, 1);
        isMany("one was refused", 6, 20, moves);
        moves.twist(1, 1, true);
        isMany("the diagram twisted", 6, 20, moves);
        moves.check(21);
        isMany("a check was refused", 6, 20, moves);
        moves.check(0);
        isMany("a check found a fault", 6, 0, moves);
    }

    private static void leastFreeLabel() {
        isMany("nothing", 7, 1, Examples.of(20));
        isMany("1, 2", 7, 3, Examples.of(0, Examples.EIGHT));
        isMany("2, 3", 7, 1, Examples.of(0, new int[] {1, 3, 3, 2, 2}));
        isMany("1, 3", 7, 2, Examples.of(0, new int[] {1, 3, 3, 1, 1}));
        isMany("1, 2, 4, 5", 7, 3, Examples.of(0, new int[] {1, 5, 5, 2, 2}, new int[] {1, 1, 1, 4, 4}));
        isMany("1, 9999", 7, 2, Examples.of(0, new int[] {1, 9999, 9999, 1, 1}));
        isMany("9998, 9999", 7, 1, Examples.of(0, new int[] {1, 9999, 9999, 9998, 9998}));
        isMany("1 to 40", 7, 41, Examples.of(0, Examples.eights(20)));
        isMany("1 to 6, others put in", 7, 7, Examples.holding(0, Examples.TREFOIL));
        DiagramMoves moves = Examples.of(0, Examples.CHAIN);
        moves.undo(Examples.faceWith(moves, -1));
        isMany("1, 5 after an undo", 7, 2, moves);
    }

    private static void isNone(int number) {
        isMany("nothing", number, -1000, Examples.of(0));
        isMany("four pieces", number, -1000, Examples.holding(4, FOUR_PIECES));
        isMany("twenty crossings", number, -1000, Examples.of(20, Examples.eights(20)));
    }

    private static void farOff() {
        int[] numbers = {-2, 9, 10, -8, 256, 65536, Integer.MAX_VALUE, Integer.MIN_VALUE};
        for (int number : numbers) {
            isNone(number);
        }
    }

    private static void changesNothing() {
        int[] wants = {-1000, 5, 4, -1, 13, 9, 8, 2, 5, -1000};
        for (int what = -1; what <= 8; what++) {
            int number = what;
            Refused.call("many(" + what + ")", wants[what + 1], () -> Examples.holding(4, FOUR_PIECES),
                    m -> m.many(number));
        }
    }
}
