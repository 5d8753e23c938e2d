/** Compares answers with those that are due, and ends a test. */
final class Due {
    // A fault at the root of many answers would otherwise fill the log.
    private static final int MOST_TOLD = 200;

    private static int wrong = 0;
    private static int calls = 0;

    private Due() {
    }

    static void same(String call, long got, long want) {
        calls++;
        if (got != want) {
            wrong++;
            tell(call + " answered " + got + ", due is " + want);
        }
    }

    private static void tell(String line) {
        if (wrong <= MOST_TOLD) {
            System.out.println(line);
        }
    }

    static void yes(String call, boolean got) {
        same(call, got ? 1 : 0, 1);
    }

    static void no(String call, boolean got) {
        same(call, got ? 1 : 0, 0);
    }

    /** The edges and the sign of a crossing. */
    static void crossing(LinkDiagram link, int x, int a, int b, int c, int d, int sign) {
        int[] want = {a, b, c, d, sign};
        for (int k = 0; k <= 4; k++) {
            same("end(" + x + ", " + k + ")", link.end(x, k), want[k]);
        }
    }

    /** Crossings, circles, components, writhe, faces and pieces. */
    static void counts(LinkDiagram link, int... want) {
        for (int k = 0; k < want.length; k++) {
            same("count(" + k + ")", link.count(k), want[k]);
        }
    }

    /** All coefficients of the first polynomial, the sum of terms given as exponent and coefficient. */
    static void first(LinkDiagram link, long... want) {
        for (int e = -120; e <= 120; e++) {
            same("first(" + e + ")", link.first(e), sparse(want, e));
        }
    }

    /** All coefficients of the second polynomial, from the exponent 0 on. */
    static void second(LinkDiagram link, long... want) {
        for (int e = -40; e <= 40; e++) {
            same("second(" + e + ")", link.second(e), e >= 0 && e < want.length ? want[e] : 0);
        }
    }

    private static long sparse(long[] terms, int e) {
        long sum = 0;
        for (int i = 0; i + 1 < terms.length; i += 2) {
            if (terms[i] == e) {
                sum += terms[i + 1];
            }
        }
        return sum;
    }

    static LinkDiagram braid(int n, int... word) {
        LinkDiagram link = new LinkDiagram();
        for (int g : word) {
            yes("letter(" + g + ")", link.letter(g));
        }
        yes("braid(" + n + ")", link.braid(n));
        return link;
    }

    static void finish() {
        System.out.println(calls + " answers, " + wrong + " not as due");
        if (wrong != 0) {
            System.exit(1);
        }
    }
}
