import java.util.Random;
import java.util.TreeSet;

/** The sections "What it is" and "Terms", where no promise's own test says it. */
public final class TermsTest {
    private static final int[][][] DIAGRAMS = {Examples.EIGHT, Examples.TREFOIL, Examples.HOPF, Examples.TWO_RINGS,
        Examples.THREE_RINGS, Examples.BORROMEAN, Examples.CHAIN, Examples.UNEVEN_CHAIN, Examples.RING_ON_KINK,
        Examples.RING_ON_TREFOIL, Examples.RING_BELOW_TREFOIL, Examples.FINGER_ON_ITSELF, Examples.eights(20)};
    private static final int[] ARGUMENTS = {0, 1, 2, 3, 4, 5, 6, 7, 8, 19, 20, 21, 40, 41, 9999, 10000, -1, -2, -3,
        80, 81, 1 << 29, 1 << 30, -(1 << 30), Integer.MAX_VALUE, Integer.MIN_VALUE};

    public static void main(String[] args) {
        Due.test("What it is, 512 calls", TermsTest::manyCalls);
        Due.test("What it is, whatever is asked is answered", TermsTest::whateverIsAsked);
        Due.test("Terms, the next dart leaves by q - 1 (modulo 4)", TermsTest::nextDart);
        Due.test("Terms, faces are numbered by their least darts", TermsTest::faceNumbers);
        Due.test("Terms, along before against", TermsTest::alongBeforeAgainst);
        Due.test("Terms, each dart is of one face", TermsTest::eachDartOnce);
        Due.test("Terms, two faces more than crossings in each piece", TermsTest::facesOfPieces);
        Due.test("Terms, the upper strand's way is the sign's", TermsTest::upperStrand);
        Due.test("Terms, labels up to 9999 in every move", TermsTest::greatestLabels);
        Due.end();
    }

    private static void manyCalls() {
        DiagramMoves moves = new DiagramMoves();
        int calls = 1;
        Due.is("check(1)", 0, moves.check(1));
        for (; calls + 4 <= 510; calls += 4) {
            Due.is("twist(0, 1, true)", true, moves.twist(0, 1, true));
            Due.is("push(1, true, 2, false, true)", false, moves.push(1, true, 2, false, true));
            Due.is("push(1, false, 2, true, false)", true, moves.push(1, false, 2, true, false));
            Due.is("simplify()", 3, moves.simplify());
        }
        Due.is("many(1)", 1, moves.many(1));
        Due.is("many(0)", 0, moves.many(0));
        Due.is("calls", 511, calls + 2);
        Due.is("many(7)", 1, moves.many(7));
    }

    /** An exception would end the test. */
    private static void whateverIsAsked() {
        Random random = new Random(20);
        for (int n = 0; n < 400; n++) {
            DiagramMoves moves = new DiagramMoves();
            Examples.put(moves, DIAGRAMS[n % DIAGRAMS.length]);
            moves.check(n % 21);
            for (int call = 0; call < 400; call++) {
                ask(moves, random);
            }
            int crossings = moves.many(0);
            Due.is("crossings", true, crossings >= 0 && crossings <= 20);
            Due.is("faces", moves.many(0) + 2 * (moves.many(5) - moves.many(1)), moves.many(3));
        }
    }

    private static int any(Random random) {
        return ARGUMENTS[random.nextInt(ARGUMENTS.length)];
    }

    private static void ask(DiagramMoves moves, Random random) {
        switch (random.nextInt(11)) {
            case 0 -> moves.crossing(random.nextInt(4) - 1, any(random), any(random), any(random), any(random));
            case 1 -> moves.check(random.nextInt(8) == 0 ? random.nextInt(3) : 99);
            case 2 -> moves.many(any(random));
            case 3 -> moves.look(any(random), any(random));
            case 4 -> moves.face(any(random), any(random));
            case 5 -> moves.pattern(any(random));
            case 6 -> moves.undo(any(random));
            case 7 -> moves.slide(any(random));
            case 8 -> moves.twist(any(random), random.nextInt(4) - 1, random.nextBoolean());
            case 9 -> moves.push(any(random), random.nextBoolean(), any(random), random.nextBoolean(),
                    random.nextBoolean());
            default -> moves.many(random.nextInt(8));
        }
    }

    /** Does a strand go in at this place? */
    private static boolean goesIn(int[] crossing, int place) {
        return place == 0 || place == (crossing[0] == 1 ? 3 : 1);
    }

    private static void nextDart() {
        TreeSet<Integer> arrivals = new TreeSet<>();
        for (int[][] diagram : DIAGRAMS) {
            DiagramMoves moves = Examples.of(0, diagram);
            for (int k = 0; k < moves.many(3); k++) {
                int size = moves.face(k, -1);
                for (int i = 0; i < size; i++) {
                    int[] at = arrival(diagram, moves.face(k, i));
                    int leaves = (at[1] + 3) % 4;
                    int label = diagram[at[0]][1 + leaves];
                    int want = goesIn(diagram[at[0]], leaves) ? -label : label;
                    Due.is("behind " + moves.face(k, i), want, moves.face(k, (i + 1) % size));
                    arrivals.add(at[1]);
                }
            }
        }
        Due.text("arrivals at each place", "[0, 1, 2, 3]", arrivals.toString());
    }

    /** Crossing and place where a dart arrives. */
    private static int[] arrival(int[][] diagram, int dart) {
        for (int c = 0; c < diagram.length; c++) {
            for (int place = 0; place < 4; place++) {
                if (diagram[c][1 + place] == Math.abs(dart) && goesIn(diagram[c], place) == dart > 0) {
                    return new int[] {c, place};
                }
            }
        }
        throw new IllegalStateException("no such dart: " + dart);
    }

    private static int rank(int dart) {
        return dart > 0 ? 2 * dart : -2 * dart + 1;
    }

    private static void faceNumbers() {
        for (int[][] diagram : DIAGRAMS) {
            DiagramMoves moves = Examples.of(0, diagram);
            int before = 0;
            for (int k = 0; k < moves.many(3); k++) {
                int first = rank(moves.face(k, 0));
                Due.is("face " + k + " behind the one before it", true, first > before);
                for (int i = 1; i < moves.face(k, -1); i++) {
                    Due.is("face " + k + " begins with its least dart", true, rank(moves.face(k, i)) > first);
                }
                before = first;
            }
        }
    }

    private static void alongBeforeAgainst() {
        Due.text("an eight", "1 -1,2 -2", Examples.faces(Examples.of(0, Examples.EIGHT)));
        Due.text("the other one", "1,-2 -1 2", Examples.faces(Examples.of(0, new int[] {1, 1, 1, 2, 2})));
        Due.text("two pieces, their labels mixed", "1 -1,9999 3 -3,20 -20 -9999",
                Examples.faces(Examples.of(0, new int[] {1, 20, 20, 3, 3}, new int[] {1, 9999, 9999, 1, 1})));
    }

    private static void eachDartOnce() {
        for (int[][] diagram : DIAGRAMS) {
            DiagramMoves moves = Examples.of(0, diagram);
            TreeSet<Integer> darts = new TreeSet<>();
            int number = 0;
            for (int k = 0; k < moves.many(3); k++) {
                for (int i = 0; i < moves.face(k, -1); i++) {
                    darts.add(moves.face(k, i));
                    number++;
                }
            }
            Due.is("darts", 4 * diagram.length, number);
            Due.is("no dart twice", number, darts.size());
        }
    }

    private static void facesOfPieces() {
        for (int[][] diagram : DIAGRAMS) {
            DiagramMoves moves = Examples.of(3, diagram);
            int pieces = moves.many(5) - 3;
            Due.is("faces", diagram.length + 2 * pieces, moves.many(3));
        }
    }

    private static void upperStrand() {
        DiagramMoves moves = new DiagramMoves();
        int[][] kinks = {{1, 2, 2, 1, 1}, {1, 1, 1, 2, 2}, {-1, 2, 1, 1, 2}, {-1, 1, 2, 2, 1}};
        for (int[] kink : kinks) {
            Examples.put(moves, kink);
            Due.is("check(0)", 0, moves.check(0));
            moves.crossing(-kink[0], kink[1], kink[2], kink[3], kink[4]);
            Due.is("check(0) with the other sign", 2, moves.check(0));
        }
    }

    private static void greatestLabels() {
        int[][] high = new int[3][];
        for (int k = 0; k < 3; k++) {
            int[] c = Examples.RING_ON_KINK[k];
            high[k] = new int[] {c[0], 9993 + c[1], 9993 + c[2], 9993 + c[3], 9993 + c[4]};
        }
        DiagramMoves moves = Examples.of(0, high);
        Due.text("patterns", "2 2 0 3 1", Examples.patterns(moves));
        Due.is("slide(3)", true, moves.slide(3));
        Due.text("slid", "1:9995,9999,9996,9998 -1:9996,9999,9997,9998 -1:9997,9994,9994,9995",
                Examples.crossings(moves));
        Due.is("twist(9999, 1, true)", true, moves.twist(9999, 1, true));
        Due.text("twisted", "1:1,1,2,9999", Examples.crossing(moves, 3));
        Due.is("undo of the loop", 1, moves.undo(Examples.faceWith(moves, -1)));
        Due.text("the lesser label", "1:9995,1,9996,9998 -1:9996,1,9997,9998 -1:9997,9994,9994,9995",
                Examples.crossings(moves));
        Due.is("simplify()", 3, moves.simplify());
        Due.is("many(1)", 2, moves.many(1));
    }
}
