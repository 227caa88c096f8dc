import java.util.ArrayDeque;
import java.util.ArrayList;
import java.util.Arrays;
import java.util.Collections;
import java.util.Deque;
import java.util.List;
import java.util.Random;
import java.util.TreeMap;

/**
 * All calls mixed on one object, up to its 512th, each one against the plain model: crossings are put
 * in bit by bit between the moves of the diagram before, checks come at any time, and arguments may
 * be far off.
 */
public final class MixedCallsTest {
    private static final int[][][] EXAMPLES = {
        Examples.EIGHT, Examples.TREFOIL, Examples.HOPF, Examples.TWO_RINGS, Examples.THREE_RINGS,
        Examples.CHAIN, Examples.UNEVEN_CHAIN, Examples.RING_ON_KINK, Examples.RING_ON_TREFOIL,
        Examples.RING_BELOW_TREFOIL, Examples.FINGER_ON_ITSELF, {Examples.TORUS}};
    private static final int[] FAR = {-3, -2, -1, 19, 20, 21, 39, 40, 41, 80, 81, 9999, 10000, 1 << 16, 1 << 28,
        1 << 29, 1 << 30, -(1 << 30), Integer.MAX_VALUE, Integer.MAX_VALUE - 1, Integer.MIN_VALUE,
        Integer.MIN_VALUE + 1};
    private static final int RUNS = 400;
    private static final int MOST_CALLS = 512;
    /** How often each call answered what; too few of one would say that the runs are no good. */
    private static final TreeMap<String, Integer> ANSWERS = new TreeMap<>();

    private final Random random;
    private final DiagramMoves moves = new DiagramMoves();
    private final PlainModel model = new PlainModel();
    private final StringBuilder told = new StringBuilder();
    private final Deque<int[]> toPutIn = new ArrayDeque<>();
    private int calls = 0;

    private MixedCallsTest(long seed) {
        random = new Random(seed);
        told.append("seed ").append(seed);
    }

    public static void main(String[] args) {
        Due.test("All calls mixed, up to the 512th", MixedCallsTest::run);
        Due.test("Every kind of answer came", MixedCallsTest::everyKindOfAnswer);
        Due.end();
    }

    private static void run() {
        for (int seed = 0; seed < RUNS && !Due.someWrong(); seed++) {
            MixedCallsTest run = new MixedCallsTest(seed);
            while (run.calls < MOST_CALLS && !Due.someWrong()) {
                run.call();
            }
            Due.is("seed " + seed + ": a diagram", true, run.model.isDiagram());
        }
    }

    private static void everyKindOfAnswer() {
        String[] kinds = {"crossing -1", "crossing 20", "check -1", "check 0", "check 1", "check 2", "check 3",
            "many -1000", "pattern -1", "pattern 0", "pattern 1", "pattern 2", "pattern 3", "undo 0", "undo 1",
            "undo 2", "slide 0", "slide 1", "twist 0", "twist 1", "push 0", "push 1", "simplify 0", "simplify 1"};
        for (String kind : kinds) {
            Due.is(kind + " came often enough", true, ANSWERS.getOrDefault(kind, 0) >= 30);
        }
    }

    private void is(String name, int want, int got, Object... arguments) {
        String list = Arrays.toString(arguments);
        told.append("; ").append(name).append('(').append(list, 1, list.length() - 1).append(')');
        calls++;
        ANSWERS.merge(name + " " + got, 1, Integer::sum);
        if (want != got) {
            Due.is(told.toString(), want, got);
        }
    }

    private void is(String name, boolean want, boolean got, Object... arguments) {
        is(name, want ? 1 : 0, got ? 1 : 0, arguments);
    }

    private boolean chance(int oneIn) {
        return random.nextInt(oneIn) == 0;
    }

    private int far() {
        return FAR[random.nextInt(FAR.length)];
    }

    /** Mostly below the bound, else the bound itself or far off. */
    private int number(int bound) {
        return chance(12) ? far() : random.nextInt(bound + 1);
    }

    private int sign() {
        return chance(12) ? far() : chance(12) ? 0 : random.nextBoolean() ? 1 : -1;
    }

    private void call() {
        switch (random.nextInt(20)) {
            case 0 -> crossing();
            case 1 -> check();
            case 2, 3 -> many();
            case 4 -> look();
            case 5 -> face();
            case 6 -> pattern();
            case 7, 8, 9 -> undo();
            case 10, 11, 12 -> slide();
            case 13, 14 -> twist();
            case 15, 16, 17, 18 -> push();
            default -> simplify();
        }
    }

    // ---- putting in

    private void crossing() {
        if (toPutIn.isEmpty()) {
            chooseRow();
        }
        int number = chance(3) ? Math.min(1, toPutIn.size()) : toPutIn.size();
        for (int n = 0; n < number && calls < MOST_CALLS; n++) {
            putIn(toPutIn.remove());
        }
    }

    private void putIn(int[] c) {
        is("crossing", model.crossing(c[0], c[1], c[2], c[3], c[4]), moves.crossing(c[0], c[1], c[2], c[3], c[4]),
                c[0], c[1], c[2], c[3], c[4]);
    }

    /** An example with labels of its own, or the diagram there is, now and then with a slip in it. */
    private void chooseRow() {
        List<int[]> row = new ArrayList<>();
        if (chance(4)) {
            model.crossings().forEach(c -> row.add(c.clone()));
        } else {
            int[][] example = EXAMPLES[random.nextInt(EXAMPLES.length)];
            int shift = random.nextInt(chance(3) ? 9980 : 30);
            for (int[] c : example) {
                row.add(new int[] {c[0], c[1] + shift, c[2] + shift, c[3] + shift, c[4] + shift});
            }
        }
        if (!row.isEmpty() && chance(3)) {
            slip(row.get(random.nextInt(row.size())));
        }
        if (chance(4)) {
            Collections.shuffle(row, random);
        }
        toPutIn.addAll(row);
    }

    private void slip(int[] c) {
        int place = 1 + random.nextInt(4);
        int other = 1 + random.nextInt(4);
        switch (random.nextInt(3)) {
            case 0 -> c[random.nextInt(5)] = far();
            case 1 -> c[0] = -c[0];
            default -> {
                int label = c[place];
                c[place] = c[other];
                c[other] = label;
            }
        }
    }

    private void check() {
        if (model.many(6) == 0 && !chance(8)) {
            return;
        }
        int circles = number(20);
        is("check", model.check(circles), moves.check(circles), circles);
        if (chance(8)) {
            toPutIn.clear();
        }
    }

    // ---- reading

    private void many() {
        int what = number(8);
        is("many", model.many(what), moves.many(what), what);
    }

    private void look() {
        int k = number(model.many(0));
        int what = number(5);
        is("look", model.look(k, what), moves.look(k, what), k, what);
    }

    private void face() {
        int k = number(model.many(3));
        int i = chance(4) ? -1 : number(Math.max(0, model.face(k, -1)));
        is("face", model.face(k, i), moves.face(k, i), k, i);
    }

    private void pattern() {
        int k = number(model.many(3));
        is("pattern", model.pattern(k), moves.pattern(k), k);
    }

    // ---- moving

    /** A face where this can be done, if there is one. */
    private int faceWith(int pattern) {
        int faces = model.many(3);
        int start = random.nextInt(faces + 1);
        for (int i = 0; i < faces; i++) {
            if (model.pattern((start + i) % faces) == pattern) {
                return (start + i) % faces;
            }
        }
        return start;
    }

    private void undo() {
        int k = chance(3) ? number(model.many(3)) : faceWith(1 + random.nextInt(2));
        is("undo", model.undo(k), moves.undo(k), k);
    }

    private void slide() {
        int k = chance(3) ? number(model.many(3)) : faceWith(3);
        is("slide", model.slide(k), moves.slide(k), k);
    }

    private int label() {
        List<Integer> labels = new ArrayList<>(model.labels());
        return labels.isEmpty() || chance(12) ? number(45) : labels.get(random.nextInt(labels.size()));
    }

    private void twist() {
        int label = chance(3) ? 0 : label();
        int sign = sign();
        boolean above = random.nextBoolean();
        is("twist", model.twist(label, sign, above), moves.twist(label, sign, above), label, sign, above);
    }

    private void push() {
        int k = number(model.many(3));
        int size = model.face(k, -1);
        boolean inFace = size > 0 && !chance(3);
        int dartX = inFace ? model.face(k, random.nextInt(size)) : label();
        int dartY = inFace ? model.face(k, random.nextInt(size)) : label();
        int x = inFace ? Math.abs(dartX) : dartX;
        int y = inFace ? Math.abs(dartY) : dartY;
        boolean againstX = inFace ? dartX < 0 : random.nextBoolean();
        boolean againstY = inFace ? dartY < 0 : random.nextBoolean();
        boolean over = random.nextBoolean();
        is("push", model.push(x, againstX, y, againstY, over), moves.push(x, againstX, y, againstY, over),
                x, againstX, y, againstY, over);
    }

    private void simplify() {
        if (chance(8)) {
            is("simplify", model.simplify(), moves.simplify());
        }
    }
}
