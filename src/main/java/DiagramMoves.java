import java.util.Arrays;

/**
 * Link diagrams and the moves of Reidemeister on them.
 *
 * <p>Place p of crossing c has the number 4 * c + p everywhere inside this file; dart 2 * e goes
 * along edge e, dart 2 * e + 1 against it. Edges are kept in the order of their labels, so that the
 * numbers of darts are in the order that the document asks for.
 */
public final class DiagramMoves {

    private static final int MOST_CROSSINGS = 20;
    private static final int MOST_CIRCLES = 20;
    private static final int MOST_PLACES = 4 * MOST_CROSSINGS;
    private static final int MOST_EDGES = 2 * MOST_CROSSINGS;
    private static final int MOST_DARTS = 2 * MOST_EDGES;
    private static final int GREATEST_LABEL = 9999;

    private static final int REFUSED = -1;
    private static final int NO_SUCH_NUMBER = -1000;

    private static final int NO_PATTERN = 0;
    private static final int KINK = 1;
    private static final int FINGER = 2;
    private static final int TRIANGLE = 3;

    /** The diagram there is, and the one that is being put in; a check that holds swaps the two. */
    private Diagram diagram;
    private Diagram draft;

    public DiagramMoves() {
        diagram = new Diagram();
        draft = new Diagram();
    }

    public int crossing(int sign, int l0, int l1, int l2, int l3) {
        boolean labelsFit = isLabel(l0) && isLabel(l1) && isLabel(l2) && isLabel(l3);
        if (!isSign(sign) || !labelsFit || draft.row.isFull()) {
            return REFUSED;
        }
        draft.row.add(sign, l0, l1, l2, l3);
        return draft.row.count;
    }

    public int check(int circles) {
        if (circles < 0 || circles > MOST_CIRCLES) {
            return REFUSED;
        }
        int fault = draft.chart();
        if (fault == 0) {
            Diagram old = diagram;
            diagram = draft;
            diagram.circles = circles;
            draft = old;
        }
        draft.row.count = 0;
        return fault;
    }

    public int many(int what) {
        switch (what) {
            case 0:
                return diagram.row.count;
            case 1:
                return diagram.circles;
            case 2:
                return diagram.row.sumOfSigns();
            case 3:
                return diagram.faces.count;
            case 4:
                return diagram.pieces.components + diagram.circles;
            case 5:
                return diagram.pieces.count + diagram.circles;
            case 6:
                return draft.row.count;
            case 7:
                return diagram.edges.freeAfter(0);
            default:
                return NO_SUCH_NUMBER;
        }
    }

    public int look(int k, int what) {
        if (k < 0 || k >= diagram.row.count || what < 0 || what > 4) {
            return 0;
        }
        return what == 4 ? diagram.row.signs[k] : diagram.row.labels[4 * k + what];
    }

    public int face(int k, int i) {
        if (!diagram.faces.has(k)) {
            return 0;
        }
        int size = diagram.faces.size(k);
        if (i == -1) {
            return size;
        }
        if (i < 0 || i >= size) {
            return 0;
        }
        return diagram.edges.signedLabel(diagram.faces.dart(k, i));
    }

    public int pattern(int face) {
        return diagram.faces.has(face) ? diagram.patternAt(face) : REFUSED;
    }

    public int undo(int face) {
        return diagram.faces.has(face) ? diagram.undoAt(face) : 0;
    }

    public boolean slide(int face) {
        return diagram.faces.has(face) && diagram.slideAt(face);
    }

    public boolean twist(int label, int sign, boolean above) {
        if (!isSign(sign) || diagram.row.isFull()) {
            return false;
        }
        return label == 0 ? diagram.twistCircle(sign, above) : diagram.twistEdge(label, sign, above);
    }

    public boolean push(int x, boolean againstX, int y, boolean againstY, boolean over) {
        int edgeX = diagram.edges.withLabel(x);
        int edgeY = diagram.edges.withLabel(y);
        if (edgeX < 0 || edgeY < 0 || edgeX == edgeY || diagram.row.count > MOST_CROSSINGS - 2) {
            return false;
        }
        return diagram.pushDart(2 * edgeX + (againstX ? 1 : 0), 2 * edgeY + (againstY ? 1 : 0), over);
    }

    public int simplify() {
        int gone = 0;
        // Every turn but the last takes a crossing away.
        for (int turn = 0; turn <= MOST_CROSSINGS; turn++) {
            int face = diagram.leastFaceToUndo();
            if (face < 0) {
                break;
            }
            gone += diagram.undoAt(face);
        }
        return gone;
    }

    private static boolean isSign(int sign) {
        return sign == 1 || sign == -1;
    }

    private static boolean isLabel(int label) {
        return label >= 1 && label <= GREATEST_LABEL;
    }

    /** A row of crossings, whether or not it is a diagram. */
    private static final class Row {
        final int[] labels = new int[MOST_PLACES];
        final int[] signs = new int[MOST_CROSSINGS];
        int count;

        boolean isFull() {
            return count >= MOST_CROSSINGS;
        }

        void add(int sign, int l0, int l1, int l2, int l3) {
            if (isFull()) {
                return;
            }
            int place = 4 * count;
            labels[place] = l0;
            labels[place + 1] = l1;
            labels[place + 2] = l2;
            labels[place + 3] = l3;
            signs[count] = sign;
            count++;
        }

        int sumOfSigns() {
            int sum = 0;
            for (int c = 0; c < count; c++) {
                sum += signs[c];
            }
            return sum;
        }

        int upperIn(int c) {
            return 4 * c + (signs[c] == 1 ? 3 : 1);
        }

        boolean strandGoesIn(int place) {
            int c = place >> 2;
            return place == 4 * c || place == upperIn(c);
        }

        /** Both places get the lesser of their labels: false when they had the same one. */
        boolean joinLabels(int placeA, int placeB) {
            int lesser = Math.min(labels[placeA], labels[placeB]);
            int greater = Math.max(labels[placeA], labels[placeB]);
            if (lesser == greater) {
                return false;
            }
            for (int place = 0; place < 4 * count; place++) {
                if (labels[place] == greater) {
                    labels[place] = lesser;
                }
            }
            return true;
        }

        void remove(int c) {
            if (c < 0 || c >= count) {
                return;
            }
            int behind = count - c - 1;
            System.arraycopy(labels, 4 * (c + 1), labels, 4 * c, 4 * behind);
            System.arraycopy(signs, c + 1, signs, c, behind);
            count--;
        }
    }

    /** The edges of a row of crossings, in the order of their labels. */
    private static final class Edges {
        final int[] placesByLabel = new int[MOST_PLACES];
        final int[] labels = new int[MOST_EDGES];
        final int[] from = new int[MOST_EDGES];
        final int[] to = new int[MOST_EDGES];
        final int[] atPlace = new int[MOST_PLACES];
        int count;

        /** 0, or the first of the conditions (1) and (2) of a diagram that is not so. */
        int find(Row row) {
            sortPlaces(row);
            if (!everyLabelStandsTwice(row)) {
                return 1;
            }
            return pairPlaces(row) ? 0 : 2;
        }

        private void sortPlaces(Row row) {
            for (int place = 0; place < 4 * row.count; place++) {
                int label = row.labels[place];
                int spot = place;
                for (; spot > 0 && row.labels[placesByLabel[spot - 1]] > label; spot--) {
                    placesByLabel[spot] = placesByLabel[spot - 1];
                }
                placesByLabel[spot] = place;
            }
        }

        private boolean everyLabelStandsTwice(Row row) {
            int before = 0;
            for (int i = 0; i + 1 < 4 * row.count; i += 2) {
                int label = row.labels[placesByLabel[i]];
                if (label == before || label != row.labels[placesByLabel[i + 1]]) {
                    return false;
                }
                before = label;
            }
            return true;
        }

        private boolean pairPlaces(Row row) {
            count = 2 * row.count;
            for (int e = 0; e < count; e++) {
                int a = placesByLabel[2 * e];
                int b = placesByLabel[2 * e + 1];
                boolean goesInAtA = row.strandGoesIn(a);
                if (goesInAtA == row.strandGoesIn(b)) {
                    return false;
                }
                from[e] = goesInAtA ? b : a;
                to[e] = goesInAtA ? a : b;
                labels[e] = row.labels[a];
                atPlace[a] = e;
                atPlace[b] = e;
            }
            return true;
        }

        /** The edge with a label, or -1. */
        int withLabel(int label) {
            for (int e = 0; e < count; e++) {
                if (labels[e] == label) {
                    return e;
                }
            }
            return -1;
        }

        int freeAfter(int label) {
            int free = label + 1;
            // One pass is enough because the labels ascend.
            for (int e = 0; e < count; e++) {
                if (labels[e] == free) {
                    free++;
                }
            }
            return free;
        }

        int signedLabel(int dart) {
            int label = labels[dart >> 1];
            return (dart & 1) == 0 ? label : -label;
        }

        int arrival(int dart) {
            return (dart & 1) == 0 ? to[dart >> 1] : from[dart >> 1];
        }

        int dartLeaving(int place) {
            int e = atPlace[place];
            return from[e] == place ? 2 * e : 2 * e + 1;
        }

        int nextDart(int dart) {
            int q = arrival(dart);
            int crossing = q >> 2;
            return dartLeaving(4 * crossing + ((q + 3) & 3));
        }

        /** At how many of its two ends the edge is the upper strand. */
        int upperEnds(int e) {
            return (from[e] & 1) + (to[e] & 1);
        }
    }

    /** The rounds of darts, numbered by their least darts. */
    private static final class Faces {
        final int[] ofDart = new int[MOST_DARTS];
        /** All darts, face behind face; those of face k are at start[k] up to start[k + 1]. */
        final int[] rounds = new int[MOST_DARTS];
        final int[] start = new int[MOST_DARTS + 1];
        int count;

        void find(Edges edges) {
            Arrays.fill(ofDart, -1);
            count = 0;
            for (int dart = 0; dart < 2 * edges.count; dart++) {
                if (ofDart[dart] < 0) {
                    addRound(edges, dart);
                }
            }
        }

        private void addRound(Edges edges, int least) {
            int end = start[count];
            int dart = least;
            for (; end < MOST_DARTS && ofDart[dart] < 0; end++) {
                ofDart[dart] = count;
                rounds[end] = dart;
                dart = edges.nextDart(dart);
            }
            count++;
            start[count] = end;
        }

        boolean has(int face) {
            return face >= 0 && face < count;
        }

        int size(int face) {
            return start[face + 1] - start[face];
        }

        int dart(int face, int i) {
            return rounds[start[face] + i];
        }
    }

    /** The pieces and the components that have crossings. */
    private static final class Pieces {
        /** The least crossing of a crossing's piece. */
        final int[] ofCrossing = new int[MOST_CROSSINGS];
        final int[] componentOfEdge = new int[MOST_EDGES];
        int count;
        int components;

        void find(int crossings, Edges edges) {
            findPieces(crossings, edges);
            countComponents(edges);
        }

        private void findPieces(int crossings, Edges edges) {
            for (int c = 0; c < crossings; c++) {
                ofCrossing[c] = c;
            }
            count = crossings;
            for (int e = 0; e < edges.count; e++) {
                unite(ofCrossing[edges.from[e] >> 2], ofCrossing[edges.to[e] >> 2], crossings);
            }
        }

        private void unite(int pieceA, int pieceB, int crossings) {
            if (pieceA == pieceB) {
                return;
            }
            int lesser = Math.min(pieceA, pieceB);
            int greater = Math.max(pieceA, pieceB);
            for (int c = greater; c < crossings; c++) {
                if (ofCrossing[c] == greater) {
                    ofCrossing[c] = lesser;
                }
            }
            count--;
        }

        private void countComponents(Edges edges) {
            Arrays.fill(componentOfEdge, -1);
            components = 0;
            for (int e = 0; e < edges.count; e++) {
                if (componentOfEdge[e] < 0) {
                    followComponent(edges, e);
                    components++;
                }
            }
        }

        private void followComponent(Edges edges, int first) {
            int e = first;
            for (int step = 0; step < MOST_EDGES && componentOfEdge[e] < 0; step++) {
                componentOfEdge[e] = components;
                e = edges.atPlace[edges.to[e] ^ 2];
            }
        }
    }

    /** The three parts of an edge that is cut twice: two passes through new crossings. */
    private static final class Cut {
        final int first;
        final int middle;
        final int last;

        Cut(int first, int middle, int last) {
            this.first = first;
            this.middle = middle;
            this.last = last;
        }

        int in(boolean firstPass) {
            return firstPass ? first : middle;
        }

        int out(boolean firstPass) {
            return firstPass ? middle : last;
        }
    }

    /** A row of crossings with circles, and the chart of it that the moves read. */
    private static final class Diagram {
        final Row row = new Row();
        final Edges edges = new Edges();
        final Faces faces = new Faces();
        final Pieces pieces = new Pieces();
        /** Slides write here, so that all three edges read what was before. */
        final int[] slidLabels = new int[MOST_PLACES];
        int circles;

        /** Reads the chart off the row anew: 0, or the first condition of a diagram that is not so. */
        int chart() {
            int fault = edges.find(row);
            if (fault != 0) {
                return fault;
            }
            faces.find(edges);
            pieces.find(row.count, edges);
            // No piece has more than two faces above its crossings, so the sum tells of each one.
            return faces.count == row.count + 2 * pieces.count ? 0 : 3;
        }

        int patternAt(int face) {
            switch (faces.size(face)) {
                case 1:
                    return KINK;
                case 2:
                    return isFinger(faces.dart(face, 0), faces.dart(face, 1)) ? FINGER : NO_PATTERN;
                case 3:
                    return isTriangle(face) ? TRIANGLE : NO_PATTERN;
                default:
                    return NO_PATTERN;
            }
        }

        private boolean isFinger(int dartA, int dartB) {
            int upperEnds = edges.upperEnds(dartA >> 1);
            return crossingAhead(dartA) != crossingAhead(dartB)
                    && upperEnds != 1
                    && edges.upperEnds(dartB >> 1) == 2 - upperEnds;
        }

        private boolean isTriangle(int face) {
            int crossings = 0;
            int heights = 0;
            for (int i = 0; i < 3; i++) {
                int dart = faces.dart(face, i);
                crossings |= 1 << crossingAhead(dart);
                heights |= 1 << edges.upperEnds(dart >> 1);
            }
            // Three crossings, and each of the heights 0, 1 and 2 once.
            return Integer.bitCount(crossings) == 3 && heights == 7;
        }

        private int crossingAhead(int dart) {
            return edges.arrival(dart) >> 2;
        }

        /** The least face where crossings can be undone, or -1. */
        int leastFaceToUndo() {
            for (int face = 0; face < faces.count; face++) {
                int pattern = patternAt(face);
                if (pattern == KINK || pattern == FINGER) {
                    return face;
                }
            }
            return -1;
        }

        int undoAt(int face) {
            int pattern = patternAt(face);
            if (pattern != KINK && pattern != FINGER) {
                return 0;
            }
            int a = crossingAhead(faces.dart(face, 0));
            if (pattern == KINK) {
                lift(a);
            } else {
                int b = crossingAhead(faces.dart(face, 1));
                lift(Math.min(a, b));
                // The first one is gone, so the other one has moved up.
                lift(Math.max(a, b) - 1);
            }
            chart();
            return pattern;
        }

        private void lift(int c) {
            int upperIn = row.upperIn(c);
            joinEdges(4 * c, 4 * c + 2);
            joinEdges(upperIn, upperIn ^ 2);
            row.remove(c);
        }

        private void joinEdges(int placeA, int placeB) {
            if (!row.joinLabels(placeA, placeB)) {
                circles++;
            }
        }

        boolean slideAt(int face) {
            if (patternAt(face) != TRIANGLE) {
                return false;
            }
            System.arraycopy(row.labels, 0, slidLabels, 0, MOST_PLACES);
            for (int i = 0; i < 3; i++) {
                slideEdge(faces.dart(face, i) >> 1);
            }
            System.arraycopy(slidLabels, 0, row.labels, 0, MOST_PLACES);
            chart();
            return true;
        }

        private void slideEdge(int e) {
            int outOfP = edges.from[e];
            int intoQ = edges.to[e];
            int ahead = row.labels[outOfP ^ 2];
            int behind = row.labels[intoQ ^ 2];
            slidLabels[outOfP ^ 2] = edges.labels[e];
            slidLabels[outOfP] = behind;
            slidLabels[intoQ] = ahead;
            slidLabels[intoQ ^ 2] = edges.labels[e];
        }

        boolean twistCircle(int sign, boolean above) {
            if (circles <= 0) {
                return false;
            }
            circles--;
            int loop = edges.freeAfter(0);
            int rest = edges.freeAfter(loop);
            addKink(new Cut(rest, loop, rest), sign, above);
            return true;
        }

        boolean twistEdge(int label, int sign, boolean above) {
            int e = edges.withLabel(label);
            if (e < 0) {
                return false;
            }
            addKink(cutEdge(e, 0), sign, above);
            return true;
        }

        private void addKink(Cut cut, int sign, boolean above) {
            addCrossing(sign, cut, above, cut, !above);
            chart();
        }

        /** Cuts an edge in three; the new parts have the first two free labels after the given one. */
        private Cut cutEdge(int e, int after) {
            int middle = edges.freeAfter(after);
            int last = edges.freeAfter(middle);
            row.labels[edges.to[e]] = last;
            return new Cut(edges.labels[e], middle, last);
        }

        private void addCrossing(int sign, Cut upper, boolean upperFirst, Cut lower, boolean lowerFirst) {
            int upperIn = upper.in(upperFirst);
            int upperOut = upper.out(upperFirst);
            int l1 = sign == 1 ? upperOut : upperIn;
            int l3 = sign == 1 ? upperIn : upperOut;
            row.add(sign, lower.in(lowerFirst), l1, lower.out(lowerFirst), l3);
        }

        boolean pushDart(int dartX, int dartY, boolean over) {
            if (!canMeet(dartX, dartY)) {
                return false;
            }
            boolean alongX = (dartX & 1) == 0;
            boolean alongY = (dartY & 1) == 0;
            Cut x = cutEdge(dartX >> 1, 0);
            Cut y = cutEdge(dartY >> 1, x.last);
            // At M y's dart goes to the left of x's: a positive crossing if x's strand is the upper
            // one there; each strand against its dart, and each change of height, turns the sign.
            int signAtM = over == (alongX == alongY) ? 1 : -1;
            if (over) {
                addCrossing(signAtM, x, alongX, y, !alongY);
                addCrossing(-signAtM, x, !alongX, y, alongY);
            } else {
                addCrossing(signAtM, y, !alongY, x, alongX);
                addCrossing(-signAtM, y, alongY, x, !alongX);
            }
            chart();
            return true;
        }

        private boolean canMeet(int dartX, int dartY) {
            int pieceX = pieces.ofCrossing[crossingAhead(dartX)];
            int pieceY = pieces.ofCrossing[crossingAhead(dartY)];
            return pieceX != pieceY || faces.ofDart[dartX] == faces.ofDart[dartY];
        }
    }
}
