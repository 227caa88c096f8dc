/** Promises 4 to 7: many, look, face, pattern. */
public final class ReadTest {
    public static void main(String[] args) {
        manyCounts();
        manyFindsTheLeastFreeLabel();
        lookReads();
        faceReads();
        patternTells();
        Due.end();
    }

    private static void isMany(String what, DiagramMoves moves, int... wants) {
        for (int i = 0; i < wants.length; i++) {
            Due.is(what + ": many(" + i + ")", wants[i], moves.many(i));
        }
    }

    private static void manyCounts() {
        isMany("circles", Examples.of(20), 0, 20, 0, 0, 20, 20, 0, 1);
        isMany("trefoil", Examples.of(0, Examples.TREFOIL), 3, 0, 3, 5, 1, 1, 0, 7);
        isMany("Hopf link", Examples.of(2, Examples.HOPF), 2, 2, 2, 4, 4, 3, 0, 5);
        isMany("two rings", Examples.of(0, Examples.TWO_RINGS), 2, 0, 0, 4, 2, 1, 0, 5);
        isMany("three rings", Examples.of(0, Examples.THREE_RINGS), 6, 0, 0, 8, 3, 1, 0, 13);
        DiagramMoves moves = Examples.of(4, new int[][] {
            {-1, 20, 30, 30, 20}, {1, 3, 2, 4, 1}, {-1, 41, 51, 51, 41}, {1, 2, 3, 1, 4}, {-1, 7, 9, 9, 7}});
        moves.crossing(1, 1, 1, 1, 1);
        isMany("four pieces", moves, 5, 4, -1, 13, 9, 8, 1, 5);
        int[] others = {-1, 8, 9, 100, Integer.MAX_VALUE, Integer.MIN_VALUE};
        for (int what : others) {
            Due.is("many(" + what + ")", -1000, moves.many(what));
        }
    }

    private static void manyFindsTheLeastFreeLabel() {
        Due.is("2, 3: many(7)", 1, Examples.of(0, new int[][] {{1, 3, 3, 2, 2}}).many(7));
        Due.is("1, 3: many(7)", 2, Examples.of(0, new int[][] {{1, 3, 3, 1, 1}}).many(7));
        Due.is("1, 2, 4, 5: many(7)", 3,
                Examples.of(0, new int[][] {{1, 5, 5, 2, 2}, {1, 1, 1, 4, 4}}).many(7));
        Due.is("1, 9999: many(7)", 2, Examples.of(0, new int[][] {{1, 9999, 9999, 1, 1}}).many(7));
    }

    private static void lookReads() {
        DiagramMoves moves = Examples.of(0, new int[][] {{-1, 20, 9999, 9999, 20}, {1, 3, 3, 1, 1}});
        int[][] wants = {{20, 9999, 9999, 20, -1}, {3, 3, 1, 1, 1}};
        for (int k = 0; k < 2; k++) {
            for (int what = 0; what < 5; what++) {
                Due.is("look(" + k + ", " + what + ")", wants[k][what], moves.look(k, what));
            }
        }
        int[] others = {-1, 5, Integer.MAX_VALUE, Integer.MIN_VALUE};
        for (int other : others) {
            Due.is("look(0, " + other + ")", 0, moves.look(0, other));
            Due.is("look(" + other + ", 0)", 0, moves.look(other, 0));
        }
        Due.is("look(2, 0)", 0, moves.look(2, 0));
        Due.is("look(2, 4)", 0, moves.look(2, 4));
    }

    private static void faceReads() {
        DiagramMoves moves = Examples.of(0, Examples.TREFOIL);
        Due.text("trefoil", "1,-4 -1,-3,-5 2,6,4 -2,5 3,-6", Examples.faces(moves));
        Due.is("face(1, -1)", 3, moves.face(1, -1));
        Due.is("face(1, 2)", -5, moves.face(1, 2));
        Due.is("face(1, 3)", 0, moves.face(1, 3));
        Due.is("face(0, 2)", 0, moves.face(0, 2));
        Due.is("face(5, -1)", 0, moves.face(5, -1));
        Due.is("face(5, 0)", 0, moves.face(5, 0));
        Due.is("face(-1, -1)", 0, moves.face(-1, -1));
        int[] others = {-2, Integer.MAX_VALUE, Integer.MIN_VALUE};
        for (int other : others) {
            Due.is("face(0, " + other + ")", 0, moves.face(0, other));
            Due.is("face(" + other + ", 0)", 0, moves.face(other, 0));
            Due.is("face(" + other + ", -1)", 0, moves.face(other, -1));
        }
        Due.text("an eight", "1 -1,2 -2", Examples.faces(Examples.of(1, Examples.EIGHT)));
        Due.text("two rings", "1,4 -1,3 2,-4 -2,-3", Examples.faces(Examples.of(0, Examples.TWO_RINGS)));
        Due.text("two pieces, their labels mixed", "1 -1,9999 3 -3,20 -20 -9999",
                Examples.faces(Examples.of(0, new int[][] {{1, 20, 20, 3, 3}, {1, 9999, 9999, 1, 1}})));
    }

    private static void patternTells() {
        isPattern("an eight", "1 0 1", Examples.EIGHT);
        isPattern("trefoil", "0 0 0 0 0", Examples.TREFOIL);
        isPattern("Hopf link", "0 0 0 0", Examples.HOPF);
        isPattern("two rings", "2 2 2 2", Examples.TWO_RINGS);
        isPattern("three rings", "3 3 3 3 3 3 3 3", Examples.THREE_RINGS);
        isPattern("Borromean rings", "0 0 0 0 0 0 0 0", Examples.BORROMEAN);
        DiagramMoves twice = Examples.of(0, new int[][] {{1, 2, 9, 5, 5}, {-1, 9, 1, 1, 2}});
        Due.text("a chain", "1,-9,-2 -1 2,-5,9 5 ", Examples.faces(twice) + " ");
        Due.is("three darts at two crossings", 0, twice.pattern(0));
        Due.is("one dart", 1, twice.pattern(1));
    }

    private static void isPattern(String what, String wants, int[][] crossings) {
        DiagramMoves moves = Examples.of(0, crossings);
        StringBuilder text = new StringBuilder();
        for (int k = 0; k < moves.many(3); k++) {
            text.append(k == 0 ? "" : " ").append(moves.pattern(k));
        }
        Due.text(what, wants, text.toString());
        int[] others = {-1, moves.many(3), Integer.MAX_VALUE, Integer.MIN_VALUE};
        for (int face : others) {
            Due.is(what + ": pattern(" + face + ")", -1, moves.pattern(face));
        }
    }
}
