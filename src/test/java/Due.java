/** Compares answers with those that are due, and ends a test with exit code 1 if one differs. */
final class Due {
    private static String sentence = "";
    private static int sentences = 0;
    private static int compared = 0;
    private static int wrong = 0;

    private Due() {
    }

    /** One test: what it compares is told under the sentence that it stands for. */
    static void test(String name, Runnable body) {
        int before = compared;
        sentence = name + ": ";
        sentences++;
        body.run();
        if (compared == before) {
            tellWrong("compares nothing");
        }
        sentence = "";
    }

    static void is(String call, long want, long got) {
        compared++;
        if (got != want) {
            tellWrong(call + " answered " + got + ", due is " + want);
        }
    }

    static void is(String call, boolean want, boolean got) {
        compared++;
        if (got != want) {
            tellWrong(call + " answered " + got + ", due is " + want);
        }
    }

    static void text(String call, String want, String got) {
        compared++;
        if (!got.equals(want)) {
            tellWrong(call + " answered " + got + ", due is " + want);
        }
    }

    private static void tellWrong(String what) {
        wrong++;
        System.out.println(sentence + what);
    }

    static boolean someWrong() {
        return wrong > 0;
    }

    static void end() {
        System.out.println(sentences + " tests, " + compared + " answers compared, " + wrong + " not as due");
        if (wrong > 0 || compared == 0) {
            System.exit(1);
        }
    }
}
