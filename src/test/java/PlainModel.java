import java.util.ArrayList;
import java.util.HashSet;
import java.util.List;
import java.util.Set;
import java.util.TreeMap;

/**
 * The document's words once more, in the plainest way: nothing is kept but the crossings and the
 * number of circles, everything else is looked for when it is asked.
 */
final class PlainModel {
    /** A crossing is one array of its own: the sign, then the four labels. */
    private List<int[]> row = new ArrayList<>();
    private List<int[]> putIn = new ArrayList<>();
    private int circles = 0;

    private record Place(int[] crossing, int number) {
        int label() {
            return crossing[1 + number];
        }

        boolean isUpper() {
            return number % 2 == 1;
        }

        boolean strandGoesIn() {
            return number == 0 || number == (crossing[0] == 1 ? 3 : 1);
        }

        Place turned(int quarters) {
            return new Place(crossing, Math.floorMod(number + quarters, 4));
        }
    }

    private record Change(Place place, int label) {
    }

    // ---- promises 2 and 3

    int crossing(int sign, int l0, int l1, int l2, int l3) {
        int[] made = {sign, l0, l1, l2, l3};
        for (int i = 1; i <= 4; i++) {
            if (made[i] < 1 || made[i] > 9999) {
                return -1;
            }
        }
        if (!isSign(sign) || putIn.size() == 20) {
            return -1;
        }
        putIn.add(made);
        return putIn.size();
    }

    private static boolean isSign(int sign) {
        return sign == 1 || sign == -1;
    }

    int check(int number) {
        if (number < 0 || number > 20) {
            return -1;
        }
        int fault = fault(putIn);
        if (fault == 0) {
            row = putIn;
            circles = number;
        }
        putIn = new ArrayList<>();
        return fault;
    }

    private static int fault(List<int[]> crossings) {
        TreeMap<Integer, List<Place>> places = placesByLabel(crossings);
        for (List<Place> two : places.values()) {
            if (two.size() != 2) {
                return 1;
            }
        }
        for (List<Place> two : places.values()) {
            if (two.get(0).strandGoesIn() == two.get(1).strandGoesIn()) {
                return 2;
            }
        }
        for (List<int[]> piece : pieces(crossings)) {
            if (faces(piece).size() != piece.size() + 2) {
                return 3;
            }
        }
        return 0;
    }

    private static TreeMap<Integer, List<Place>> placesByLabel(List<int[]> crossings) {
        TreeMap<Integer, List<Place>> places = new TreeMap<>();
        for (int[] crossing : crossings) {
            for (int number = 0; number < 4; number++) {
                Place place = new Place(crossing, number);
                places.computeIfAbsent(place.label(), label -> new ArrayList<>()).add(place);
            }
        }
        return places;
    }

    private static List<List<int[]>> pieces(List<int[]> crossings) {
        List<List<int[]>> pieces = new ArrayList<>();
        List<int[]> left = new ArrayList<>(crossings);
        while (!left.isEmpty()) {
            List<int[]> piece = new ArrayList<>();
            piece.add(left.remove(0));
            for (int i = 0; i < piece.size(); i++) {
                for (int k = left.size() - 1; k >= 0; k--) {
                    if (shareLabel(piece.get(i), left.get(k))) {
                        piece.add(left.remove(k));
                    }
                }
            }
            pieces.add(piece);
        }
        return pieces;
    }

    private static boolean shareLabel(int[] a, int[] b) {
        for (int i = 1; i <= 4; i++) {
            for (int k = 1; k <= 4; k++) {
                if (a[i] == b[k]) {
                    return true;
                }
            }
        }
        return false;
    }

    /** A dart is its edge's label, below 0 when it goes against it. */
    private static List<List<Integer>> faces(List<int[]> crossings) {
        TreeMap<Integer, List<Place>> places = placesByLabel(crossings);
        List<List<Integer>> faces = new ArrayList<>();
        Set<Integer> seen = new HashSet<>();
        for (int label : places.keySet()) {
            for (int least : new int[] {label, -label}) {
                List<Integer> face = new ArrayList<>();
                for (int dart = least; seen.add(dart); dart = next(dart, places)) {
                    face.add(dart);
                }
                if (!face.isEmpty()) {
                    faces.add(face);
                }
            }
        }
        return faces;
    }

    private static int next(int dart, TreeMap<Integer, List<Place>> places) {
        Place leaves = end(places, Math.abs(dart), dart > 0).turned(-1);
        return leaves.strandGoesIn() ? -leaves.label() : leaves.label();
    }

    /** Where an edge goes to, or comes from. */
    private static Place end(TreeMap<Integer, List<Place>> places, int label, boolean to) {
        for (Place place : places.get(label)) {
            if (place.strandGoesIn() == to) {
                return place;
            }
        }
        throw new IllegalStateException("no such end of " + label);
    }

    // ---- promises 4 to 7

    List<int[]> crossings() {
        return row;
    }

    boolean isDiagram() {
        return fault(row) == 0;
    }

    Set<Integer> labels() {
        return placesByLabel(row).keySet();
    }

    int many(int what) {
        switch (what) {
            case 0:
                return row.size();
            case 1:
                return circles;
            case 2:
                return row.stream().mapToInt(crossing -> crossing[0]).sum();
            case 3:
                return faces(row).size();
            case 4:
                return circles + components();
            case 5:
                return circles + pieces(row).size();
            case 6:
                return putIn.size();
            case 7:
                return free(1)[0];
            default:
                return -1000;
        }
    }

    private int components() {
        TreeMap<Integer, List<Place>> places = placesByLabel(row);
        Set<Integer> seen = new HashSet<>();
        int components = 0;
        for (int label : places.keySet()) {
            if (!seen.contains(label)) {
                components++;
            }
            for (int on = label; seen.add(on); on = end(places, on, true).turned(2).label()) {
                continue;
            }
        }
        return components;
    }

    private int[] free(int number) {
        Set<Integer> labels = labels();
        int[] free = new int[number];
        int found = 0;
        for (int label = 1; found < number; label++) {
            if (!labels.contains(label)) {
                free[found++] = label;
            }
        }
        return free;
    }

    int look(int k, int what) {
        if (k < 0 || k >= row.size() || what < 0 || what > 4) {
            return 0;
        }
        return row.get(k)[what == 4 ? 0 : what + 1];
    }

    int face(int k, int i) {
        List<List<Integer>> faces = faces(row);
        if (k < 0 || k >= faces.size()) {
            return 0;
        }
        List<Integer> face = faces.get(k);
        if (i == -1) {
            return face.size();
        }
        return i < 0 || i >= face.size() ? 0 : face.get(i);
    }

    int pattern(int k) {
        List<List<Integer>> faces = faces(row);
        if (k < 0 || k >= faces.size()) {
            return -1;
        }
        List<Integer> face = faces.get(k);
        List<int[]> corners = corners(face);
        TreeMap<Integer, List<Place>> places = placesByLabel(row);
        int upper = 0;
        int lower = 0;
        int mixed = 0;
        for (int dart : face) {
            List<Place> ends = places.get(Math.abs(dart));
            boolean first = ends.get(0).isUpper();
            boolean second = ends.get(1).isUpper();
            upper += first && second ? 1 : 0;
            lower += !first && !second ? 1 : 0;
            mixed += first != second ? 1 : 0;
        }
        if (face.size() == 1) {
            return 1;
        }
        if (face.size() == 2 && corners.size() == 2 && upper == 1 && lower == 1) {
            return 2;
        }
        return face.size() == 3 && corners.size() == 3 && upper == 1 && lower == 1 && mixed == 1 ? 3 : 0;
    }

    /** The crossings of a face, each once, in the order in which they were put in. */
    private List<int[]> corners(List<Integer> face) {
        TreeMap<Integer, List<Place>> places = placesByLabel(row);
        List<int[]> corners = new ArrayList<>();
        for (int[] crossing : row) {
            for (int dart : face) {
                if (end(places, Math.abs(dart), dart > 0).crossing() == crossing) {
                    corners.add(crossing);
                    break;
                }
            }
        }
        return corners;
    }

    // ---- promises 8, 9 and 12

    int undo(int k) {
        int pattern = pattern(k);
        if (pattern != 1 && pattern != 2) {
            return 0;
        }
        List<int[]> corners = corners(faces(row).get(k));
        corners.forEach(this::lift);
        return corners.size();
    }

    private void lift(int[] crossing) {
        becomeOne(crossing, 0, 2);
        becomeOne(crossing, crossing[0] == 1 ? 3 : 1, crossing[0] == 1 ? 1 : 3);
        row.removeIf(other -> other == crossing);
    }

    private void becomeOne(int[] crossing, int placeA, int placeB) {
        int a = crossing[1 + placeA];
        int b = crossing[1 + placeB];
        if (a == b) {
            circles++;
        }
        for (int[] other : row) {
            for (int i = 1; i <= 4; i++) {
                other[i] = other[i] == a || other[i] == b ? Math.min(a, b) : other[i];
            }
        }
    }

    boolean slide(int k) {
        if (pattern(k) != 3) {
            return false;
        }
        TreeMap<Integer, List<Place>> places = placesByLabel(row);
        List<Change> changes = new ArrayList<>();
        for (int dart : faces(row).get(k)) {
            int m = Math.abs(dart);
            Place outOfP = end(places, m, false);
            Place intoP = outOfP.turned(2);
            Place intoQ = end(places, m, true);
            Place outOfQ = intoQ.turned(2);
            changes.add(new Change(intoP, m));
            changes.add(new Change(outOfP, outOfQ.label()));
            changes.add(new Change(intoQ, intoP.label()));
            changes.add(new Change(outOfQ, m));
        }
        for (Change change : changes) {
            relabel(change.place(), change.label());
        }
        return true;
    }

    private static void relabel(Place place, int label) {
        place.crossing()[1 + place.number()] = label;
    }

    int simplify() {
        int gone = 0;
        for (int k = 0; k < faces(row).size(); k++) {
            int went = undo(k);
            gone += went;
            k = went > 0 ? -1 : k;
        }
        return gone;
    }

    // ---- promises 10 and 11

    boolean twist(int label, int sign, boolean above) {
        boolean there = label == 0 ? circles > 0 : labels().contains(label);
        if (!there || !isSign(sign) || row.size() == 20) {
            return false;
        }
        int[] free = free(2);
        int loop = free[0];
        int last = free[1];
        int first = label;
        if (label == 0) {
            circles--;
            first = last;
        } else {
            relabel(end(placesByLabel(row), label, true), last);
        }
        int[] made = new int[5];
        made[0] = sign;
        made[1] = above ? loop : first;
        made[3] = above ? last : loop;
        made[sign == 1 ? 4 : 2] = above ? first : loop;
        made[sign == 1 ? 2 : 4] = above ? loop : last;
        row.add(made);
        return true;
    }

    boolean push(int x, boolean againstX, int y, boolean againstY, boolean over) {
        Set<Integer> labels = labels();
        if (!labels.contains(x) || !labels.contains(y) || x == y || row.size() > 18) {
            return false;
        }
        TreeMap<Integer, List<Place>> places = placesByLabel(row);
        if (!oneFace(againstX ? -x : x, againstY ? -y : y) && !twoPieces(x, y)) {
            return false;
        }
        int[] free = free(4);
        relabel(end(places, x, true), free[1]);
        relabel(end(places, y, true), free[3]);
        // The three parts of each edge in the order in which its dart meets them.
        int[] byX = againstX ? new int[] {free[1], free[0], x} : new int[] {x, free[0], free[1]};
        int[] byY = againstY ? new int[] {free[3], free[2], y} : new int[] {y, free[2], free[3]};
        // Round M counterclockwise from where x's dart comes: y's dart comes from its right. At N it
        // goes to its right.
        int[] roundM = {byX[0], byY[1], byX[1], byY[2]};
        int[] roundN = {byX[1], byY[1], byX[2], byY[0]};
        row.add(around(roundM, !againstX, over, !againstY));
        row.add(around(roundN, !againstX, over, againstY));
        return true;
    }

    /**
     * The crossing with these labels counterclockwise: one strand between 0 and 2 (going so, or the
     * other way), upper or lower, the other one between 1 and 3.
     */
    private static int[] around(int[] labels, boolean from0To2, boolean upper, boolean from1To3) {
        int in02 = from0To2 ? 0 : 2;
        int in13 = from1To3 ? 1 : 3;
        int lowerIn = upper ? in13 : in02;
        int upperIn = upper ? in02 : in13;
        int[] made = new int[5];
        for (int place = 0; place < 4; place++) {
            made[1 + place] = labels[(lowerIn + place) % 4];
        }
        made[0] = (lowerIn + 3) % 4 == upperIn ? 1 : -1;
        return made;
    }

    private boolean oneFace(int dartX, int dartY) {
        for (List<Integer> face : faces(row)) {
            if (face.contains(dartX) && face.contains(dartY)) {
                return true;
            }
        }
        return false;
    }

    private boolean twoPieces(int x, int y) {
        for (List<int[]> piece : pieces(row)) {
            Set<Integer> labels = placesByLabel(piece).keySet();
            if (labels.contains(x) && labels.contains(y)) {
                return false;
            }
        }
        return true;
    }
}
