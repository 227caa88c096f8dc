import java.util.HashMap;
import java.util.List;
import java.util.Map;

/** The Jones polynomial, by Kauffman's bracket: no move of Reidemeister changes it. */
final class Jones {
    private static final int MIDDLE = 256;

    private Jones() {
    }

    /**
     * The coefficients of the powers of A, as a text. A crossing is its sign and its four labels; a
     * circle counts a factor -A^2 - A^-2.
     */
    static String of(List<int[]> crossings, int circles) {
        int n = crossings.size();
        int sumOfSigns = 0;
        for (int[] crossing : crossings) {
            sumOfSigns += crossing[0];
        }
        long[] sum = new long[2 * MIDDLE];
        for (int state = 0; state < 1 << n; state++) {
            int power = n - 2 * Integer.bitCount(state);
            addLoops(sum, power, loops(crossings, state) + circles);
        }
        return normalised(sum, sumOfSigns);
    }

    /** Smoothing A joins the places 0 and 1, 2 and 3; smoothing B 1 and 2, 3 and 0. */
    private static int loops(List<int[]> crossings, int state) {
        Map<Integer, Integer> root = new HashMap<>();
        for (int[] crossing : crossings) {
            for (int place = 0; place < 4; place++) {
                root.put(crossing[1 + place], crossing[1 + place]);
            }
        }
        int loops = root.size();
        for (int k = 0; k < crossings.size(); k++) {
            int[] crossing = crossings.get(k);
            int turn = state >> k & 1;
            loops -= join(root, crossing[1 + turn], crossing[2 + turn]);
            loops -= join(root, crossing[3 + turn], crossing[1 + (turn + 3) % 4]);
        }
        return loops;
    }

    private static int join(Map<Integer, Integer> root, int a, int b) {
        int rootA = find(root, a);
        int rootB = find(root, b);
        root.put(rootA, rootB);
        return rootA == rootB ? 0 : 1;
    }

    private static int find(Map<Integer, Integer> root, int label) {
        int at = label;
        while (root.get(at) != at) {
            at = root.get(at);
        }
        return at;
    }

    private static void addLoops(long[] sum, int power, int loops) {
        long binomial = 1;
        for (int i = 0; i <= loops; i++) {
            sum[MIDDLE + power + 2 * loops - 4 * i] += loops % 2 == 0 ? binomial : -binomial;
            binomial = binomial * (loops - i) / (i + 1);
        }
    }

    private static String normalised(long[] sum, int sumOfSigns) {
        StringBuilder text = new StringBuilder();
        for (int i = 0; i < sum.length; i++) {
            if (sum[i] != 0) {
                long coefficient = sumOfSigns % 2 == 0 ? sum[i] : -sum[i];
                text.append(' ').append(coefficient).append('A').append(i - MIDDLE - 3 * sumOfSigns);
            }
        }
        return text.toString();
    }
}
