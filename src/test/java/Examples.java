import java.util.Arrays;

/** Diagrams to test with, and ways to put them in and to read them whole. */
final class Examples {
    /** A circle with one kink: edge 1 is its loop at the left, edge 2 the other one. */
    static final int[][] EIGHT = {{1, 2, 2, 1, 1}};
    static final int[][] TREFOIL = {{1, 1, 5, 2, 4}, {1, 3, 1, 4, 6}, {1, 5, 3, 6, 2}};
    static final int[][] HOPF = {{1, 3, 2, 4, 1}, {1, 2, 3, 1, 4}};
    /** Two rings, one lying on the other: edges 1 and 2 are the upper ring's. */
    static final int[][] TWO_RINGS = {{1, 3, 2, 4, 1}, {-1, 4, 2, 3, 1}};
    /**
     * Three round rings as in a Venn diagram, all counterclockwise, A (1 .. 4) on B (5 .. 8) on C
     * (9 .. 12). The crossings: AB outside, AB inside, AC outside, AC inside, BC outside, BC inside.
     */
    static final int[][] THREE_RINGS = {
        {-1, 7, 4, 8, 1}, {1, 5, 3, 6, 2}, {1, 12, 4, 9, 3},
        {-1, 10, 1, 11, 2}, {-1, 11, 8, 12, 5}, {1, 9, 7, 10, 6}};
    /** The same rings with C on A: the Borromean ones. */
    static final int[][] BORROMEAN = {
        {-1, 7, 4, 8, 1}, {1, 5, 3, 6, 2}, {-1, 3, 12, 4, 9},
        {1, 1, 11, 2, 10}, {-1, 11, 8, 12, 5}, {1, 9, 7, 10, 6}};
    /** Two kinks in one strand; its faces of three darts are at two crossings, all edges mixed. */
    static final int[][] CHAIN = {{1, 2, 9, 5, 5}, {-1, 9, 1, 1, 2}};
    /** The same, but edge 1 is upper at both ends, edge 4 lower at both. */
    static final int[][] UNEVEN_CHAIN = {{1, 4, 1, 2, 2}, {1, 3, 3, 4, 1}};
    /**
     * A ring (5 and 6) on a kink: the other strand (1 to 4) comes in below the ring, crosses itself
     * there (its loop is 3) and goes out below the ring. Edges 2, 4 and 5 are round a triangle.
     */
    static final int[][] RING_ON_KINK = {{1, 1, 5, 2, 6}, {-1, 4, 5, 1, 6}, {-1, 3, 2, 4, 3}};
    /** A ring (9 and 10) on edge 1 of a trefoil, which is 1, 7, 8 now. */
    static final int[][] RING_ON_TREFOIL = {
        {1, 8, 5, 2, 4}, {1, 3, 1, 4, 6}, {1, 5, 3, 6, 2}, {1, 1, 9, 7, 10}, {-1, 7, 9, 8, 10}};
    /** The same with the ring below it, and the two crossings of the ring apart. */
    static final int[][] RING_BELOW_TREFOIL = {
        {1, 9, 8, 10, 7}, {1, 8, 5, 2, 4}, {1, 3, 1, 4, 6}, {-1, 10, 1, 9, 7}, {1, 5, 3, 6, 2}};
    /** A strand with a finger over itself: face 0 is 1, 4. */
    static final int[][] FINGER_ON_ITSELF = {{-1, 4, 2, 2, 1}, {1, 3, 3, 4, 1}};
    /** What is put in, without a check, behind the diagrams of holding. */
    static final int[][] PUT_IN = {{-1, 9999, 2, 2, 9999}, {1, 31, 31, 17, 17}};
    static final int[] NO_SIGNS = {0, 2, -2, 3, -3, 257, -257, 65537, Integer.MAX_VALUE, Integer.MIN_VALUE};
    /** Two rings that cross once: it lies on a torus, not on a sphere. */
    static final int[] TORUS = {1, 1, 2, 1, 2};

    private Examples() {
    }

    static int put(DiagramMoves moves, int[]... crossings) {
        int answer = 0;
        for (int[] c : crossings) {
            answer = moves.crossing(c[0], c[1], c[2], c[3], c[4]);
        }
        return answer;
    }

    static DiagramMoves of(int circles, int[]... crossings) {
        DiagramMoves moves = new DiagramMoves();
        put(moves, crossings);
        Due.is("check of " + Arrays.deepToString(crossings), 0, moves.check(circles));
        return moves;
    }

    /** The same, and PUT_IN put in behind it. */
    static DiagramMoves holding(int circles, int[]... crossings) {
        DiagramMoves moves = of(circles, crossings);
        put(moves, PUT_IN);
        return moves;
    }

    /** What holding put in is still there, and is the diagram after a check. */
    static void stillHolds(String what, DiagramMoves moves) {
        Due.is(what + ", then many(6)", PUT_IN.length, moves.many(6));
        Due.is(what + ", then check(0)", 0, moves.check(0));
        Due.text(what + ", then what was put in", "-1:9999,2,2,9999 1:31,31,17,17", crossings(moves));
    }

    /** So many pieces, each one a circle with a kink; the labels are 1, 2, 3 .. */
    static int[][] eights(int pieces) {
        int[][] crossings = new int[pieces][];
        for (int n = 0; n < pieces; n++) {
            crossings[n] = new int[] {1, 2 * n + 2, 2 * n + 2, 2 * n + 1, 2 * n + 1};
        }
        return crossings;
    }

    /** The crossing with its strands' heights changed. */
    static int[] flipped(int[] c) {
        return c[0] == 1 ? new int[] {-1, c[4], c[1], c[2], c[3]} : new int[] {1, c[2], c[3], c[4], c[1]};
    }

    /** Three round rings, A on B, A on C and B on C or the other way round. */
    static int[][] rings(boolean aOnB, boolean aOnC, boolean bOnC) {
        boolean[] asTheyAre = {aOnB, aOnB, aOnC, aOnC, bOnC, bOnC};
        int[][] rings = new int[6][];
        for (int c = 0; c < 6; c++) {
            rings[c] = asTheyAre[c] ? THREE_RINGS[c] : flipped(THREE_RINGS[c]);
        }
        return rings;
    }

    /** A circle that is twisted until it has so many crossings. */
    static DiagramMoves twistedCircle(int crossings) {
        DiagramMoves moves = of(1);
        Due.is("twist(0, 1, true)", true, moves.twist(0, 1, true));
        for (int c = 1; c < crossings; c++) {
            Due.is("twist(1, 1, true)", true, moves.twist(1, c % 2 == 0 ? 1 : -1, c % 3 == 0));
        }
        return moves;
    }

    static String crossing(DiagramMoves moves, int k) {
        return moves.look(k, 4) + ":" + moves.look(k, 0) + "," + moves.look(k, 1) + ","
                + moves.look(k, 2) + "," + moves.look(k, 3);
    }

    static String crossings(DiagramMoves moves) {
        StringBuilder text = new StringBuilder();
        int crossings = moves.many(0);
        for (int k = 0; k < crossings; k++) {
            text.append(k == 0 ? "" : " ").append(crossing(moves, k));
        }
        return text.toString();
    }

    static String face(DiagramMoves moves, int k) {
        StringBuilder text = new StringBuilder();
        int size = moves.face(k, -1);
        for (int i = 0; i < size; i++) {
            text.append(i == 0 ? "" : ",").append(moves.face(k, i));
        }
        return text.toString();
    }

    static String faces(DiagramMoves moves) {
        StringBuilder text = new StringBuilder();
        int faces = moves.many(3);
        for (int k = 0; k < faces; k++) {
            text.append(k == 0 ? "" : " ").append(face(moves, k));
        }
        return text.toString();
    }

    /** All that can be read, but for the crossings that were put in. */
    static String all(DiagramMoves moves) {
        StringBuilder text = new StringBuilder(crossings(moves));
        text.append(" | ").append(faces(moves)).append(" |");
        for (int what = 0; what < 8; what++) {
            text.append(what == 6 ? "" : " " + moves.many(what));
        }
        return text.toString();
    }

    /** The number of the face with a dart, or -1. */
    static int faceWith(DiagramMoves moves, int dart) {
        for (int k = 0; k < moves.many(3); k++) {
            for (int i = 0; i < moves.face(k, -1); i++) {
                if (moves.face(k, i) == dart) {
                    return k;
                }
            }
        }
        return -1;
    }

    static String patterns(DiagramMoves moves) {
        StringBuilder text = new StringBuilder();
        int faces = moves.many(3);
        for (int k = 0; k < faces; k++) {
            text.append(k == 0 ? "" : " ").append(moves.pattern(k));
        }
        return text.toString();
    }

    /** What there is now is a diagram, and reads the same when it is put in. */
    static void isDiagram(String what, DiagramMoves moves) {
        DiagramMoves again = new DiagramMoves();
        int crossings = moves.many(0);
        for (int k = 0; k < crossings; k++) {
            again.crossing(moves.look(k, 4),
                    moves.look(k, 0), moves.look(k, 1), moves.look(k, 2), moves.look(k, 3));
        }
        int circles = moves.many(1);
        Due.is(what + ": check", 0, again.check(circles <= 20 ? circles : 20));
        if (circles <= 20) {
            Due.text(what + ": all", all(again), all(moves));
        }
    }
}
