/** Promises 8 to 12: undo, slide, twist, push, simplify. */
public final class MovesTest {
    private static final int[] NO_FACES = {-1, 100, Integer.MAX_VALUE, Integer.MIN_VALUE};

    public static void main(String[] args) {
        undoOne();
        undoOneOfTwenty();
        undoTwo();
        undoRefuses();
        slideThree();
        slideRefuses();
        twistEdge();
        twistCircle();
        twistRefuses();
        pushInOneFace();
        pushBetweenPieces();
        pushRefuses();
        pushUpToTwentyCrossings();
        simplifyAll();
        lowLabelsAreFree();
        whatIsGoneIsNotThere();
        Due.end();
    }

    private static void undoOne() {
        DiagramMoves moves = Examples.of(0, new int[][] {{1, 2, 9, 5, 5}, {-1, 9, 1, 1, 2}});
        Due.is("undo(1)", 1, moves.undo(1));
        Due.text("the lesser label is kept", "1:1,1,5,5", Examples.crossings(moves));
        Due.text("the faces are new", "1,-5 -1 5", Examples.faces(moves));
        Due.is("undo(2)", 1, moves.undo(2));
        Due.is("many(0)", 0, moves.many(0));
        Due.is("one with itself is a circle", 1, moves.many(1));
        Due.is("many(3)", 0, moves.many(3));

        moves = Examples.of(2, Examples.TREFOIL);
        String before = Examples.all(moves);
        Due.is("twist(1, 1, true)", true, moves.twist(1, 1, true));
        Due.is("undo of the loop", 1, moves.undo(Examples.faceWith(moves, -7)));
        Due.text("as it was", before, Examples.all(moves));
    }

    private static void undoOneOfTwenty() {
        for (int face = 0; face < 22; face++) {
            DiagramMoves moves = Examples.twistedCircle(20);
            boolean kink = moves.face(face, -1) == 1;
            Due.is("pattern(" + face + ")", kink, moves.pattern(face) == 1);
            if (kink) {
                Due.is("undo(" + face + ")", 1, moves.undo(face));
                Due.is("many(0)", 19, moves.many(0));
                Examples.isDiagram("undo(" + face + ")", moves);
            }
        }
    }

    private static void undoTwo() {
        for (int face = 0; face < 4; face++) {
            DiagramMoves moves = Examples.of(3, Examples.TWO_RINGS);
            Due.is("undo(" + face + ")", 2, moves.undo(face));
            Due.is("many(0)", 0, moves.many(0));
            Due.is("two circles more", 5, moves.many(1));
        }
        DiagramMoves moves = Examples.of(0, Examples.THREE_RINGS);
        Due.is("push(4, true, 12, true, true)", true, moves.push(4, true, 12, true, true));
        Due.is("pattern", 2, moves.pattern(Examples.faceWith(moves, 13)));
        Due.is("undo", 2, moves.undo(Examples.faceWith(moves, 13)));
        Due.text("as it was", Examples.all(Examples.of(0, Examples.THREE_RINGS)), Examples.all(moves));
    }

    private static void undoRefuses() {
        int[][][] examples = {Examples.TREFOIL, Examples.HOPF, Examples.BORROMEAN, Examples.THREE_RINGS};
        for (int[][] example : examples) {
            DiagramMoves moves = Examples.of(1, example);
            String before = Examples.all(moves);
            for (int face = 0; face < moves.many(3); face++) {
                Due.is("undo(" + face + ")", 0, moves.undo(face));
            }
            for (int face : NO_FACES) {
                Due.is("undo(" + face + ")", 0, moves.undo(face));
            }
            Due.is("undo(the number of faces)", 0, moves.undo(moves.many(3)));
            Due.text("nothing was done", before, Examples.all(moves));
        }
        DiagramMoves eight = Examples.of(0, Examples.EIGHT);
        Due.is("two darts at one crossing", 0, eight.undo(1));
        Due.text("nothing was done", "1:2,2,1,1", Examples.crossings(eight));
    }

    private static void slideThree() {
        DiagramMoves moves = Examples.of(0, Examples.THREE_RINGS);
        String before = Examples.all(moves);
        int middle = Examples.faceWith(moves, 2);
        Due.text("the middle face", "2,6,10", Examples.face(moves, middle));
        Due.is("slide(" + middle + ")", true, moves.slide(middle));
        Due.text("slid", "-1:7,4,8,1 1:6,2,7,1 1:12,4,9,3 -1:9,2,10,3 -1:11,8,12,5 1:10,6,11,5",
                Examples.crossings(moves));
        Examples.isDiagram("slid", moves);
        int again = Examples.faceWith(moves, -2);
        Due.text("the middle face, turned", "-2,-6,-10", Examples.face(moves, again));
        Due.is("slide(" + again + ")", true, moves.slide(again));
        Due.text("slid back", before, Examples.all(moves));
    }

    private static void slideRefuses() {
        int[][][] examples = {Examples.EIGHT, Examples.TREFOIL, Examples.TWO_RINGS, Examples.BORROMEAN,
            {{1, 2, 9, 5, 5}, {-1, 9, 1, 1, 2}}};
        for (int[][] example : examples) {
            DiagramMoves moves = Examples.of(1, example);
            String before = Examples.all(moves);
            for (int face = 0; face < moves.many(3); face++) {
                Due.is("slide(" + face + ")", false, moves.slide(face));
            }
            for (int face : NO_FACES) {
                Due.is("slide(" + face + ")", false, moves.slide(face));
            }
            Due.text("nothing was done", before, Examples.all(moves));
        }
    }

    private static void twistEdge() {
        isTwist(1, 1, true, "1:8,5,2,4 1:3,1,4,6 1:5,3,6,2 1:7,7,8,1");
        isTwist(1, -1, true, "1:8,5,2,4 1:3,1,4,6 1:5,3,6,2 -1:7,1,8,7");
        isTwist(1, 1, false, "1:8,5,2,4 1:3,1,4,6 1:5,3,6,2 1:1,8,7,7");
        isTwist(1, -1, false, "1:8,5,2,4 1:3,1,4,6 1:5,3,6,2 -1:1,7,7,8");
        isTwist(6, -1, true, "1:1,5,2,4 1:3,1,4,8 1:5,3,6,2 -1:7,6,8,7");
        DiagramMoves moves = Examples.of(0, new int[][] {{1, 3, 3, 1, 1}});
        Due.is("twist(3, 1, true)", true, moves.twist(3, 1, true));
        Due.text("the free labels are 2 and 4", "1:4,3,1,1 1:2,2,4,3", Examples.crossings(moves));
        Examples.isDiagram("twisted", moves);
    }

    private static void isTwist(int label, int sign, boolean above, String wants) {
        DiagramMoves moves = Examples.of(0, Examples.TREFOIL);
        Due.is("twist(" + label + ", " + sign + ", " + above + ")", true, moves.twist(label, sign, above));
        Due.text("twisted", wants, Examples.crossings(moves));
        Examples.isDiagram("twisted", moves);
    }

    private static void twistCircle() {
        isTwistedCircle(1, true, "1:1,1,2,2");
        isTwistedCircle(-1, true, "-1:1,2,2,1");
        isTwistedCircle(1, false, "1:2,2,1,1");
        isTwistedCircle(-1, false, "-1:2,1,1,2");
        DiagramMoves moves = Examples.of(1, new int[][] {{1, 3, 3, 1, 1}});
        Due.is("twist(0, 1, false)", true, moves.twist(0, 1, false));
        Due.text("the free labels are 2 and 4", "1:3,3,1,1 1:4,4,2,2", Examples.crossings(moves));
    }

    private static void isTwistedCircle(int sign, boolean above, String wants) {
        DiagramMoves moves = Examples.of(20);
        Due.is("twist(0, " + sign + ", " + above + ")", true, moves.twist(0, sign, above));
        Due.text("twisted", wants, Examples.crossings(moves));
        Due.is("a circle no more", 19, moves.many(1));
        Due.is("components", 20, moves.many(4));
        Examples.isDiagram("twisted", moves);
    }

    private static void twistRefuses() {
        DiagramMoves moves = Examples.of(0, Examples.TREFOIL);
        String before = Examples.all(moves);
        Due.is("no circle", false, moves.twist(0, 1, true));
        int[] noLabels = {7, -1, 9999, 10000, Integer.MAX_VALUE, Integer.MIN_VALUE};
        for (int label : noLabels) {
            Due.is("twist(" + label + ", 1, true)", false, moves.twist(label, 1, true));
        }
        int[] noSigns = {0, 2, -2, Integer.MAX_VALUE, Integer.MIN_VALUE};
        for (int sign : noSigns) {
            Due.is("twist(1, " + sign + ", true)", false, moves.twist(1, sign, true));
        }
        Due.text("nothing was done", before, Examples.all(moves));

        moves = Examples.of(1);
        Due.is("twist(0, 0, true)", false, moves.twist(0, 0, true));
        Due.is("many(1)", 1, moves.many(1));

        moves = Examples.of(20);
        for (int n = 1; n <= 19; n++) {
            Due.is("circle " + n, true, moves.twist(0, 1, true));
        }
        Due.is("crossing 20", true, moves.twist(1, 1, true));
        before = Examples.all(moves);
        Due.is("an edge when there are 20 crossings", false, moves.twist(1, 1, true));
        Due.is("a circle when there are 20 crossings", false, moves.twist(0, 1, true));
        Due.text("nothing was done", before, Examples.all(moves));
    }

    private static void pushInOneFace() {
        isPush(2, false, 6, false, true, "1:1,5,2,4 1:3,1,4,10 1:5,3,6,8 1:9,7,10,2 -1:6,7,9,8");
        isPush(2, false, 6, false, false, "1:1,5,2,4 1:3,1,4,10 1:5,3,6,8 -1:2,9,7,10 1:7,9,8,6");
        isPush(1, true, 3, true, true, "1:8,5,2,4 1:10,1,4,6 1:5,3,6,2 1:3,8,9,7 -1:9,1,10,7");
        isPush(1, true, 3, true, false, "1:8,5,2,4 1:10,1,4,6 1:5,3,6,2 -1:7,3,8,9 1:1,10,7,9");
        isPush(1, false, 4, true, true, "1:8,5,2,10 1:3,1,4,6 1:5,3,6,2 -1:4,1,9,7 1:9,8,10,7");
        isPush(1, false, 4, true, false, "1:8,5,2,10 1:3,1,4,6 1:5,3,6,2 1:1,9,7,4 -1:7,9,8,10");
        isPush(4, true, 1, false, true, "1:10,5,2,8 1:3,1,4,6 1:5,3,6,2 -1:9,7,10,8 1:1,7,9,4");
        isPush(4, true, 1, false, false, "1:10,5,2,8 1:3,1,4,6 1:5,3,6,2 1:7,10,8,9 -1:4,1,7,9");
    }

    private static void isPush(int x, boolean againstX, int y, boolean againstY, boolean over, String wants) {
        String call = "push(" + x + ", " + againstX + ", " + y + ", " + againstY + ", " + over + ")";
        DiagramMoves moves = Examples.of(1, Examples.TREFOIL);
        String before = Examples.all(moves);
        Due.is(call, true, moves.push(x, againstX, y, againstY, over));
        Due.text(call, wants, Examples.crossings(moves));
        Examples.isDiagram(call, moves);
        // The finger turns to the right at its tip, so that lies to the right of the dart.
        int tip = Examples.faceWith(moves, againstX ? 7 : -7);
        Due.is(call + ": pattern at the tip", 2, moves.pattern(tip));
        Due.is(call + ": undo at the tip", 2, moves.undo(tip));
        Due.text(call + ": undone", before, Examples.all(moves));
    }

    private static void pushBetweenPieces() {
        int[][] pieces = {{1, 2, 2, 1, 1}, {-1, 7, 6, 6, 7}};
        for (int way = 0; way < 8; way++) {
            for (int x = 1; x <= 2; x++) {
                DiagramMoves moves = Examples.of(0, pieces);
                boolean done = moves.push(x, (way & 1) != 0, 7, (way & 2) != 0, (way & 4) != 0);
                Due.is("push of two pieces, way " + way, true, done);
                Due.is("many(0)", 4, moves.many(0));
                Due.is("many(2)", 0, moves.many(2));
                Due.is("many(3)", 6, moves.many(3));
                Due.is("many(4)", 2, moves.many(4));
                Due.is("many(5)", 1, moves.many(5));
                Examples.isDiagram("push of two pieces, way " + way, moves);
            }
        }
        DiagramMoves moves = Examples.of(0, pieces);
        Due.is("push(7, false, 1, false, true)", true, moves.push(7, false, 1, false, true));
        Due.text("the free labels are 3, 4, 5, 8", "1:2,2,1,8 -1:4,6,6,7 1:5,3,8,7 -1:1,3,5,4",
                Examples.crossings(moves));
    }

    private static void pushRefuses() {
        DiagramMoves moves = Examples.of(1, Examples.TREFOIL);
        String before = Examples.all(moves);
        for (int way = 0; way < 8; way++) {
            boolean againstX = (way & 1) != 0;
            boolean againstY = (way & 2) != 0;
            boolean over = (way & 4) != 0;
            Due.is("the same edge", false, moves.push(1, againstX, 1, againstY, over));
            Due.is("edges without a common face", false, moves.push(1, !againstY, 2, againstY, over));
            int[] noEdges = {0, 7, -1, 10000, Integer.MAX_VALUE, Integer.MIN_VALUE};
            for (int label : noEdges) {
                Due.is("x " + label, false, moves.push(label, againstX, 1, againstY, over));
                Due.is("y " + label, false, moves.push(1, againstX, label, againstY, over));
                Due.is("both " + label, false, moves.push(label, againstX, label, againstY, over));
            }
        }
        Due.is("the other dart of x", false, moves.push(1, true, 4, true, true));
        Due.is("the other dart of y", false, moves.push(1, false, 4, false, true));
        Due.is("the other darts of both", false, moves.push(1, true, 4, false, true));
        Due.text("nothing was done", before, Examples.all(moves));
    }

    private static void pushUpToTwentyCrossings() {
        for (int crossings = 17; crossings <= 20; crossings++) {
            DiagramMoves moves = Examples.twistedCircle(crossings);
            int face = 0;
            while (moves.face(face, -1) < 2) {
                face++;
            }
            int x = moves.face(face, 0);
            int y = moves.face(face, 1);
            boolean can = crossings <= 18;
            boolean done = moves.push(Math.abs(x), x < 0, Math.abs(y), y < 0, true);
            Due.is("push when there are " + crossings, can, done);
            if (can) {
                Due.is("many(0)", crossings + 2, moves.many(0));
                Examples.isDiagram("push when there are " + crossings, moves);
            } else {
                String before = Examples.all(Examples.twistedCircle(crossings));
                Due.text("nothing was done", before, Examples.all(moves));
            }
        }
    }

    private static void simplifyAll() {
        DiagramMoves moves = Examples.twistedCircle(20);
        Due.is("simplify() of 20 kinks", 20, moves.simplify());
        Due.is("many(0)", 0, moves.many(0));
        Due.is("many(1)", 1, moves.many(1));
        Due.is("simplify() of a circle", 0, moves.simplify());
        Due.is("simplify() of two rings", 2, Examples.of(0, Examples.TWO_RINGS).simplify());
        Due.is("simplify() of three rings", 0, Examples.of(0, Examples.THREE_RINGS).simplify());

        moves = Examples.of(2, Examples.TREFOIL);
        String before = Examples.all(moves);
        Due.is("simplify() of a trefoil", 0, moves.simplify());
        Due.is("twist(6, -1, false)", true, moves.twist(6, -1, false));
        Due.is("simplify()", 1, moves.simplify());
        Due.text("as it was", before, Examples.all(moves));
        simplifyAtTheLeastFace();
    }

    /** Undoing at other faces first would leave the trefoil as it was. */
    private static void simplifyAtTheLeastFace() {
        DiagramMoves moves = Examples.of(0, Examples.TREFOIL);
        Due.is("push(2, false, 6, false, true)", true, moves.push(2, false, 6, false, true));
        Due.is("twist(7, -1, false)", true, moves.twist(7, -1, false));
        Due.text("faces", "1,-4 -1,-3,-5 2,10,4 -2,5,-8,9 3,-10,7,12,-6 6,8 -7,-9,-12,11 -11",
                Examples.faces(moves));
        Due.is("simplify()", 3, moves.simplify());
        Due.text("simplified", "1:1,5,2,4 1:3,1,4,10 1:5,3,10,2", Examples.crossings(moves));
    }

    private static DiagramMoves trefoilFrom11() {
        return Examples.of(0, new int[][] {{1, 11, 15, 12, 14}, {1, 13, 11, 14, 16}, {1, 15, 13, 16, 12}});
    }

    private static void lowLabelsAreFree() {
        DiagramMoves moves = trefoilFrom11();
        Due.is("twist(11, -1, true)", true, moves.twist(11, -1, true));
        Due.text("twisted", "1:2,15,12,14 1:13,11,14,16 1:15,13,16,12 -1:1,11,2,1", Examples.crossings(moves));
        Due.text("face 0 is the loop", "1", Examples.face(moves, 0));
        Due.is("simplify() at face 0 alone", 1, moves.simplify());
        Due.text("the edge has the loop's label", "1:1,15,12,14 1:13,1,14,16 1:15,13,16,12",
                Examples.crossings(moves));

        moves = trefoilFrom11();
        Due.is("push(12, false, 16, false, true)", true, moves.push(12, false, 16, false, true));
        Due.text("pushed", "1:11,15,12,14 1:13,11,14,4 1:15,13,16,2 1:3,1,4,12 -1:16,1,3,2",
                Examples.crossings(moves));
    }

    private static void whatIsGoneIsNotThere() {
        DiagramMoves moves = Examples.of(0, Examples.TREFOIL);
        Due.is("twist(1, 1, true)", true, moves.twist(1, 1, true));
        Due.is("simplify()", 1, moves.simplify());
        String before = Examples.all(moves);
        Due.is("look(3, 4)", 0, moves.look(3, 4));
        Due.is("look(3, 0)", 0, moves.look(3, 0));
        Due.is("face(5, -1)", 0, moves.face(5, -1));
        Due.is("pattern(5)", -1, moves.pattern(5));
        Due.is("undo(5)", 0, moves.undo(5));
        Due.is("slide(5)", false, moves.slide(5));
        Due.is("twist(7, 1, true)", false, moves.twist(7, 1, true));
        Due.is("twist(8, 1, true)", false, moves.twist(8, 1, true));
        Due.is("push(7, false, 1, false, true)", false, moves.push(7, false, 1, false, true));
        Due.text("nothing was done", before, Examples.all(moves));

        moves = Examples.twistedCircle(20);
        Due.is("look(20, 0)", 0, moves.look(20, 0));
        Due.is("look(20, 4)", 0, moves.look(20, 4));
        Due.is("face(22, -1)", 0, moves.face(22, -1));
        Due.is("push(41, false, 42, false, true)", false, moves.push(41, false, 42, false, true));
    }
}
