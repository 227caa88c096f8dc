import java.util.ArrayList;
import java.util.Arrays;
import java.util.Collections;
import java.util.List;
import java.util.Random;

/** Runs of random calls, the same ones each time, against the plain model and Jones's polynomial. */
public final class RandomMovesTest {
    private static final int[][][] STARTS = {
        {}, Examples.EIGHT, Examples.TREFOIL, Examples.HOPF, Examples.TWO_RINGS, Examples.THREE_RINGS,
        Examples.BORROMEAN};
    /** With one reading of everything, a run stays below the document's 512 calls. */
    private static final int MOST_MOVES = 80;
    private static final int MOST_FOR_JONES = 9;

    private final Random random;
    private final DiagramMoves moves = new DiagramMoves();
    private final PlainModel model = new PlainModel();
    private final StringBuilder told = new StringBuilder();
    private final int[] done = new int[5];

    private RandomMovesTest(long seed) {
        random = new Random(seed);
        told.append("seed ").append(seed);
    }

    public static void main(String[] args) {
        Due.test("Random moves of the examples", RandomMovesTest::moveExamples);
        Due.test("Random crossings and moves", RandomMovesTest::moveAnything);
        Due.end();
    }

    private static void moveExamples() {
        int[] done = new int[5];
        for (int seed = 0; seed < 6000 && !Due.someWrong(); seed++) {
            RandomMovesTest run = new RandomMovesTest(seed);
            run.putInExamples();
            run.moveAndRead();
            for (int i = 0; i < done.length; i++) {
                done[i] += run.done[i];
            }
        }
        System.out.println("undone, slid, twisted, pushed, simplified: " + Arrays.toString(done));
        for (int number : done) {
            Due.is("enough of each move", true, number > 1000);
        }
    }

    private static void moveAnything() {
        int[] answers = new int[4];
        for (int seed = 0; seed < 6000 && !Due.someWrong(); seed++) {
            answers[new RandomMovesTest(seed).putInAnything()]++;
        }
        System.out.println("checks that answered 0, 1, 2, 3: " + Arrays.toString(answers));
        for (int number : answers) {
            Due.is("enough of each answer", true, number > 200);
        }
    }

    private void is(String call, int want, int got) {
        told.append("; ").append(call);
        if (want != got) {
            Due.is(told.toString(), want, got);
        }
    }

    private boolean chance(int oneIn) {
        return random.nextInt(oneIn) == 0;
    }

    // ---- putting in

    private void putInExamples() {
        int crossings = 0;
        List<Integer> labels = new ArrayList<>();
        boolean small = random.nextBoolean();
        int greatest = small ? 40 : 9999;
        for (int n = random.nextInt(4); n >= 0; n--) {
            int[][] example = STARTS[random.nextInt(STARTS.length)];
            if (crossings + example.length <= 16) {
                putInRelabelled(example, labels, greatest);
                crossings += example.length;
            }
        }
        int circles = random.nextInt(4);
        is("check(" + circles + ")", model.check(circles), moves.check(circles));
    }

    private void putInRelabelled(int[][] example, List<Integer> taken, int greatest) {
        int[] label = new int[13];
        for (int i = 1; i <= 2 * example.length; i++) {
            do {
                label[i] = 1 + random.nextInt(greatest);
            } while (taken.contains(label[i]));
            taken.add(label[i]);
        }
        for (int[] c : example) {
            putIn(c[0], label[c[1]], label[c[2]], label[c[3]], label[c[4]]);
        }
    }

    private void putIn(int sign, int l0, int l1, int l2, int l3) {
        is("crossing(" + sign + ", " + l0 + ", " + l1 + ", " + l2 + ", " + l3 + ")",
                model.crossing(sign, l0, l1, l2, l3), moves.crossing(sign, l0, l1, l2, l3));
    }

    /** Crossings whose labels are dealt out anyhow: in twos, in twos of in and out, or not. */
    private int putInAnything() {
        int crossings = 1 + random.nextInt(3);
        boolean inTwos = !chance(4);
        boolean inAndOut = inTwos && !chance(4);
        int[] signs = new int[crossings];
        int[][] labels = new int[crossings][4];
        List<int[]> places = new ArrayList<>();
        for (int c = 0; c < crossings; c++) {
            signs[c] = random.nextBoolean() ? 1 : -1;
            for (int p = 0; p < 4; p++) {
                places.add(new int[] {c, p});
            }
        }
        Collections.shuffle(places, random);
        if (inAndOut) {
            places = insAndOutsInTurn(places, signs);
        }
        for (int i = 0; i < places.size(); i++) {
            int[] place = places.get(i);
            labels[place[0]][place[1]] = inTwos ? 1 + i / 2 : 1 + random.nextInt(2 * crossings);
        }
        for (int c = 0; c < crossings; c++) {
            putIn(signs[c], labels[c][0], labels[c][1], labels[c][2], labels[c][3]);
        }
        int want = model.check(1);
        is("check(1)", want, moves.check(1));
        moveAndRead();
        return want;
    }

    private static List<int[]> insAndOutsInTurn(List<int[]> places, int[] signs) {
        List<int[]> ins = new ArrayList<>();
        List<int[]> outs = new ArrayList<>();
        for (int[] place : places) {
            boolean in = place[1] == 0 || place[1] == (signs[place[0]] == 1 ? 3 : 1);
            (in ? ins : outs).add(place);
        }
        List<int[]> mixed = new ArrayList<>();
        for (int i = 0; i < ins.size(); i++) {
            mixed.add(ins.get(i));
            mixed.add(outs.get(i));
        }
        return mixed;
    }

    // ---- moving and reading

    private void moveAndRead() {
        String jones = jones();
        int number = random.nextInt(MOST_MOVES);
        boolean grow = random.nextBoolean();
        for (int i = 0; i < number && !Due.someWrong(); i++) {
            move(grow);
        }
        // From here on what the model has is what the object has.
        readAll();
        Due.is(told + ": a diagram", true, model.isDiagram());
        String jonesNow = jones();
        if (!jones.isEmpty() && !jonesNow.isEmpty()) {
            Due.text(told + ": Jones", jones, jonesNow);
        }
    }

    private String jones() {
        boolean few = model.many(0) <= MOST_FOR_JONES;
        return few ? Jones.of(model.crossings(), model.many(1)) : "";
    }

    private void move(boolean grow) {
        switch (random.nextInt(grow ? 10 : 16)) {
            case 0:
            case 1:
            case 2:
                slide();
                break;
            case 3:
            case 4:
                twist();
                break;
            case 5:
                if (chance(4)) {
                    int want = model.simplify();
                    done[4] += want;
                    is("simplify()", want, moves.simplify());
                }
                break;
            case 6:
            case 7:
            case 8:
            case 9:
                push();
                break;
            default:
                undo();
                break;
        }
    }

    private int anyFace(int pattern) {
        int faces = model.many(3);
        int start = random.nextInt(faces + 2) - 1;
        for (int i = 0; i < faces; i++) {
            int face = Math.floorMod(start + i, faces);
            if (model.pattern(face) == pattern) {
                return face;
            }
        }
        return start;
    }

    private void undo() {
        int face = chance(4) ? anyFace(0) : anyFace(random.nextBoolean() ? 1 : 2);
        int want = model.undo(face);
        done[0] += want;
        is("undo(" + face + ")", want, moves.undo(face));
    }

    private void slide() {
        int face = chance(8) ? anyFace(0) : anyFace(3);
        boolean want = model.slide(face);
        done[1] += want ? 1 : 0;
        is("slide(" + face + ")", want ? 1 : 0, moves.slide(face) ? 1 : 0);
    }

    private int anyLabel() {
        List<Integer> labels = new ArrayList<>(model.labels());
        return labels.isEmpty() || chance(20) ? random.nextInt(45) - 2 : labels.get(random.nextInt(labels.size()));
    }

    private void twist() {
        int label = chance(4) ? 0 : anyLabel();
        int sign = chance(10) ? random.nextInt(5) - 2 : random.nextBoolean() ? 1 : -1;
        boolean above = random.nextBoolean();
        boolean want = model.twist(label, sign, above);
        done[2] += want ? 1 : 0;
        is("twist(" + label + ", " + sign + ", " + above + ")", want ? 1 : 0,
                moves.twist(label, sign, above) ? 1 : 0);
    }

    private void push() {
        int face = random.nextInt(model.many(3) + 1);
        int size = model.face(face, -1);
        boolean inFace = size > 0 && !chance(4);
        int dartX = inFace ? model.face(face, random.nextInt(size)) : anyLabel();
        int dartY = inFace ? model.face(face, random.nextInt(size)) : anyLabel();
        int x = Math.abs(dartX);
        int y = Math.abs(dartY);
        boolean againstX = inFace ? dartX < 0 : random.nextBoolean();
        boolean againstY = inFace ? dartY < 0 : random.nextBoolean();
        boolean over = random.nextBoolean();
        boolean want = model.push(x, againstX, y, againstY, over);
        done[3] += want ? 1 : 0;
        is("push(" + x + ", " + againstX + ", " + y + ", " + againstY + ", " + over + ")", want ? 1 : 0,
                moves.push(x, againstX, y, againstY, over) ? 1 : 0);
    }

    private void readAll() {
        for (int what = -1; what <= 8; what++) {
            is("many(" + what + ")", model.many(what), moves.many(what));
        }
        for (int k = 0; k <= model.many(0); k++) {
            for (int what = 0; what <= 4; what++) {
                is("look(" + k + ", " + what + ")", model.look(k, what), moves.look(k, what));
            }
        }
        for (int k = -1; k <= model.many(3); k++) {
            is("pattern(" + k + ")", model.pattern(k), moves.pattern(k));
            for (int i = -1; i <= model.face(k, -1); i++) {
                is("face(" + k + ", " + i + ")", model.face(k, i), moves.face(k, i));
            }
        }
    }
}
