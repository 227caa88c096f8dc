/** Promise 2: crossing. */
public final class Promise02CrossingTest {
    private static final int[] NO_LABELS = {0, -1, 10000, 10001, 65537, Integer.MAX_VALUE, Integer.MIN_VALUE};

    public static void main(String[] args) {
        Due.test("Promise 2, one more is put in: how many there are", Promise02CrossingTest::howMany);
        Due.test("Promise 2, what is put in", Promise02CrossingTest::whatIsPutIn);
        Due.test("Promise 2, the diagram is as it was", Promise02CrossingTest::diagramIsAsItWas);
        Due.test("Promise 2, the two signs", Promise02CrossingTest::signs);
        Due.test("Promise 2, a sign that is none", Promise02CrossingTest::noSign);
        Due.test("Promise 2, label 1 at each place", () -> labelFits(1));
        Due.test("Promise 2, label 9999 at each place", () -> labelFits(9999));
        Due.test("Promise 2, label 0 at each place", () -> labelIsRefused(0));
        Due.test("Promise 2, label 10000 at each place", () -> labelIsRefused(10000));
        Due.test("Promise 2, labels far off at each place", Promise02CrossingTest::farLabels);
        Due.test("Promise 2, a sign and labels that are none", Promise02CrossingTest::nothingFits);
        Due.test("Promise 2, the twentieth crossing", Promise02CrossingTest::twentieth);
        Due.test("Promise 2, the twenty-first crossing", Promise02CrossingTest::twentyFirst);
        Due.test("Promise 2, crossings of the diagram don't count", Promise02CrossingTest::besideAFullDiagram);
        Due.end();
    }

    private static void howMany() {
        DiagramMoves moves = new DiagramMoves();
        for (int n = 1; n <= 20; n++) {
            Due.is("crossing " + n, n, moves.crossing(n % 2 == 0 ? 1 : -1, n, n, 1, 1));
            Due.is("crossing " + n + ", then many(6)", n, moves.many(6));
        }
        Due.is("many(6) again", 20, moves.many(6));
    }

    private static void whatIsPutIn() {
        DiagramMoves moves = new DiagramMoves();
        Due.is("the first", 1, moves.crossing(1, 3, 2, 4, 1));
        Due.is("the second", 2, moves.crossing(-1, 4, 2, 3, 1));
        Due.is("check(0)", 0, moves.check(0));
        Due.text("in their order", "1:3,2,4,1 -1:4,2,3,1", Examples.crossings(moves));
    }

    private static void diagramIsAsItWas() {
        DiagramMoves moves = Examples.of(2, Examples.TREFOIL);
        String before = Examples.all(moves);
        Due.is("a crossing with its labels", 1, moves.crossing(1, 1, 1, 7, 8));
        Due.text("the diagram", before, Examples.all(moves));
    }

    private static void signs() {
        DiagramMoves moves = new DiagramMoves();
        Due.is("sign 1", 1, moves.crossing(1, 2, 2, 1, 1));
        Due.is("sign -1", 2, moves.crossing(-1, 4, 3, 3, 4));
        Due.is("check(0)", 0, moves.check(0));
        Due.is("look(0, 4)", 1, moves.look(0, 4));
        Due.is("look(1, 4)", -1, moves.look(1, 4));
    }

    private static void isRefused(int sign, int l0, int l1, int l2, int l3) {
        String call = "crossing(" + sign + ", " + l0 + ", " + l1 + ", " + l2 + ", " + l3 + ")";
        Refused.call(call, -1, DiagramMoves::new, m -> m.crossing(sign, l0, l1, l2, l3));
        Refused.call(call + " behind others", -1, () -> Examples.holding(1, Examples.TREFOIL),
                m -> m.crossing(sign, l0, l1, l2, l3));
    }

    private static void noSign() {
        for (int sign : Examples.NO_SIGNS) {
            isRefused(sign, 2, 2, 1, 1);
        }
    }

    private static void labelFits(int label) {
        for (int place = 0; place < 4; place++) {
            DiagramMoves moves = new DiagramMoves();
            int[] labels = {20, 20, 20, 20};
            labels[place] = label;
            Due.is("place " + place, 1, moves.crossing(1, labels[0], labels[1], labels[2], labels[3]));
            Due.is("place " + place + ", then many(6)", 1, moves.many(6));
        }
        DiagramMoves moves = new DiagramMoves();
        Due.is("at the places 0 and 1", 1, moves.crossing(1, label, label, 20, 20));
        Due.is("check(0)", 0, moves.check(0));
        Due.is("look(0, 0)", label, moves.look(0, 0));
        Due.is("look(0, 1)", label, moves.look(0, 1));
        Due.is("at the places 2 and 3", 1, moves.crossing(1, 20, 20, label, label));
        Due.is("check(0)", 0, moves.check(0));
        Due.is("look(0, 2)", label, moves.look(0, 2));
        Due.is("look(0, 3)", label, moves.look(0, 3));
    }

    private static void labelIsRefused(int label) {
        isRefused(1, label, 1, 2, 2);
        isRefused(1, 1, label, 2, 2);
        isRefused(-1, 1, 1, label, 2);
        isRefused(-1, 1, 1, 2, label);
    }

    private static void farLabels() {
        for (int label : NO_LABELS) {
            labelIsRefused(label);
        }
    }

    private static void nothingFits() {
        isRefused(0, 0, 0, 0, 0);
        isRefused(2, 10000, 10000, 10000, 10000);
        isRefused(1, 0, 10000, -1, 10000);
        isRefused(0, 0, 1, 2, 2);
    }

    private static DiagramMoves withSoManyPutIn(int number) {
        DiagramMoves moves = Examples.of(1, Examples.HOPF);
        Examples.put(moves, Examples.eights(number));
        return moves;
    }

    private static void twentieth() {
        DiagramMoves moves = withSoManyPutIn(19);
        Due.is("crossing", 20, moves.crossing(-1, 9999, 9998, 9998, 9999));
        Due.is("many(6)", 20, moves.many(6));
        Due.is("check(0)", 0, moves.check(0));
        Due.text("crossing 19", "-1:9999,9998,9998,9999", Examples.crossing(moves, 19));
    }

    private static void twentyFirst() {
        Refused.call("crossing", -1, () -> withSoManyPutIn(20), m -> m.crossing(1, 50, 50, 51, 51));
        Refused.call("crossing with a wrong sign", -1, () -> withSoManyPutIn(20), m -> m.crossing(0, 50, 50, 51, 51));
        DiagramMoves moves = withSoManyPutIn(20);
        Due.is("crossing", -1, moves.crossing(1, 50, 50, 51, 51));
        Due.is("and again", -1, moves.crossing(1, 50, 50, 51, 51));
        Due.is("check(0)", 0, moves.check(0));
        Due.is("the first one after that", 1, moves.crossing(1, 50, 50, 51, 51));
    }

    private static void besideAFullDiagram() {
        DiagramMoves moves = Examples.of(0, Examples.eights(20));
        Due.is("crossing", 1, moves.crossing(1, 50, 50, 51, 51));
        Due.is("many(0)", 20, moves.many(0));
        Due.is("many(6)", 1, moves.many(6));
    }
}
