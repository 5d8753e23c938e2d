/** The sentences of the promises 1 and 7 to 10 that name a boundary case, each in its own method. */
public final class AnswersBoundaryTest {
    private static final int[] FAR = {
        Integer.MIN_VALUE, Integer.MIN_VALUE + 1, Integer.MAX_VALUE - 1, Integer.MAX_VALUE};

    public static void main(String[] args) {
        newObject();
        countOfAnotherK();
        circlesAreNeither();
        endOfNoCrossing();
        endOfAnotherK();
        firstOfAnyExponent();
        firstAtItsOutermost();
        secondOfAnyExponent();
        secondAtItsOutermost();
        Due.finish();
    }

    // Promise 1: "As said above."
    private static void newObject() {
        for (int i = 0; i < 3; i++) {
            LinkDiagram link = new LinkDiagram();
            Due.counts(link, 0, 1, 1, 0, 0, 0);
            Due.first(link, 0, 1);
            Due.second(link, 1);
            Setting.FRESH.keptParts("new", link);
            // What one object is made to be is nothing to the next.
            Setting.FULL.build();
        }
    }

    // Promise 7: "NONE for another k."
    private static void countOfAnotherK() {
        Due.same("NONE", LinkDiagram.NONE, -100);
        for (Setting setting : Setting.ALL) {
            for (int k : new int[] {-1, 6, -2, 7, 8, 100, -100}) {
                setting.answers("count(" + k + ")", -100, link -> link.count(k));
            }
            for (int k : FAR) {
                setting.answers("count(" + k + ")", -100, link -> link.count(k));
            }
            LinkDiagram link = setting.build();
            for (int k = 0; k <= 5; k++) {
                Due.no("count(" + k + ") is NONE", link.count(k) == -100);
            }
        }
        Due.counts(Setting.SOME.build(), 3, 2, 3, 3, 5, 1);
        Due.counts(Setting.FULL.build(), 8, 0, 1, 0, 10, 1);
        Due.counts(Setting.LOOPS.build(), 8, 4, 12, 0, 24, 8);
        // The writhe at its least and at its greatest.
        Due.counts(Due.braid(2, 1, 1, 1, 1, 1, 1, 1, 1), 8, 0, 2, 8, 10, 1);
        Due.counts(Due.braid(2, -1, -1, -1, -1, -1, -1, -1, -1), 8, 0, 2, -8, 10, 1);
    }

    // Promise 7: "(Circles are neither.)", of faces and pieces
    private static void circlesAreNeither() {
        for (int circles = 0; circles <= 4; circles++) {
            if (circles > 0) {
                Due.counts(Setting.taken(circles), 0, circles, circles, 0, 0, 0);
            }
            Due.counts(Setting.taken(circles, Setting.TREFOIL), 3, circles, circles + 1, 3, 5, 1);
        }
    }

    // Promise 8: "NONE when there is no such crossing"
    private static void endOfNoCrossing() {
        for (int many = 0; many <= 8; many++) {
            LinkDiagram link = Setting.taken(many == 0 ? 1 : 0, Setting.loops(many, 1));
            for (int k = 0; k <= 4; k++) {
                for (int x = 0; x <= 9; x++) {
                    Due.same("end(" + x + ", " + k + ") NONE", link.end(x, k) == -100 ? 1 : 0, x < many ? 0 : 1);
                }
                Due.same("end(-1, " + k + ")", link.end(-1, k), -100);
                for (int far : FAR) {
                    Due.same("end(" + far + ", " + k + ")", link.end(far, k), -100);
                }
            }
        }
        // The draft's crossings are not the diagram's, and those taken out are there no more.
        LinkDiagram link = Setting.SOME.build();
        Due.same("end(3, 0)", link.end(3, 0), -100);
        Due.yes("twist(1, 0)", link.twist(1, 0));
        Due.same("end(3, 0)", link.end(3, 0), 1);
        Due.yes("untwist(3)", link.untwist(3));
        Due.same("end(3, 0)", link.end(3, 0), -100);
    }

    // Promise 8: "or k is not 0 .. 4."
    private static void endOfAnotherK() {
        for (Setting setting : Setting.ALL) {
            LinkDiagram link = setting.build();
            for (int x = -1; x <= 8; x++) {
                for (int k : new int[] {-1, 5, -2, 6}) {
                    Due.same("end(" + x + ", " + k + ")", link.end(x, k), -100);
                }
                for (int k : FAR) {
                    Due.same("end(" + x + ", " + k + ")", link.end(x, k), -100);
                }
            }
            setting.kept("end", link);
        }
        Due.crossing(Setting.SOME.build(), 0, 2, 4, 3, 1, 1);
        Due.crossing(Setting.UNEVEN.build(), 0, 1, 2, 2, 1, -1);
    }

    // Promise 9: "(0 for any e where there is none)"
    private static void firstOfAnyExponent() {
        for (Setting setting : Setting.ALL) {
            for (int i = 0; i < 100; i++) {
                int below = Integer.MIN_VALUE + i;
                int above = Integer.MAX_VALUE - i;
                LinkDiagram link = setting.build();
                Due.same("first(" + below + ")", link.first(below), 0);
                Due.same("first(" + above + ")", link.first(above), 0);
            }
            setting.answers("first(least)", 0, link -> link.first(Integer.MIN_VALUE));
            setting.answers("first(greatest)", 0, link -> link.first(Integer.MAX_VALUE));
        }
        // Powers of two from each exponent that has a coefficient, of a writhe of 8 and of -8.
        for (int sign = -1; sign <= 1; sign += 2) {
            for (int bit = 7; bit <= 31; bit++) {
                LinkDiagram link = Due.braid(2, sign, sign, sign, sign, sign, sign, sign, sign);
                for (int e = 14; e <= 46; e += 4) {
                    Due.same("first", link.first(-sign * e), e == 18 ? 0 : e % 8 == 6 ? -1 : 1);
                    Due.same("first", link.first((1 << bit) - sign * e), 0);
                    Due.same("first", link.first(-(1 << bit) - sign * e), 0);
                }
            }
        }
        overAllIntegers(true);
    }

    /** Steps through all of them, with a new object for every 256. */
    private static void overAllIntegers(boolean first) {
        for (Setting setting : Setting.ALL) {
            LinkDiagram link = setting.build();
            for (int i = 0; i < 4096; i++) {
                if (i % 256 == 0) {
                    link = setting.build();
                }
                int e = Integer.MIN_VALUE + i * 1048573;
                if (e < -100 || e > 100) {
                    Due.same("coefficient of " + e, first ? link.first(e) : link.second(e), 0);
                }
            }
        }
    }

    // Promise 9: "The coefficient of A to the power e", at the outermost that there are
    private static void firstAtItsOutermost() {
        Due.first(Setting.taken(4), 6, -1, 2, -3, -2, -3, -6, -1);
        long[] odd = {-12, 1, -20, 1, -24, -1, -28, 1, -32, -1, -36, 1, -40, -1};
        Due.first(Due.braid(2, 1, 1, 1, 1, 1, 1, 1), odd);
        Due.first(Due.braid(2, -1, -1, -1, -1, -1, -1, -1), mirrored(odd));
        int[][] eight = Setting.read(Due.braid(2, 1, 1, 1, 1, 1, 1, 1, 1));
        long[] torus = {-14, -1, -22, -1, -26, 1, -30, -1, -34, 1, -38, -1, -42, 1, -46, -1};
        Due.first(Setting.taken(0, eight), torus);
        Due.first(Setting.taken(4, eight), withCircles(torus, 4));
        int[][] mirror = Setting.read(Due.braid(2, -1, -1, -1, -1, -1, -1, -1, -1));
        Due.first(Setting.taken(0, mirror), mirrored(torus));
        Due.first(Setting.taken(4, mirror), withCircles(mirrored(torus), 4));
    }

    /** Times so many powers of -A^2 - A^-2. */
    private static long[] withCircles(long[] terms, int circles) {
        long[] now = terms;
        for (int i = 0; i < circles; i++) {
            long[] product = new long[2 * now.length];
            for (int j = 0; j < now.length; j += 2) {
                product[2 * j] = now[j] + 2;
                product[2 * j + 1] = -now[j + 1];
                product[2 * j + 2] = now[j] - 2;
                product[2 * j + 3] = -now[j + 1];
            }
            now = product;
        }
        return now;
    }

    private static long[] mirrored(long[] terms) {
        long[] now = terms.clone();
        for (int j = 0; j < now.length; j += 2) {
            now[j] = -now[j];
        }
        return now;
    }

    // Promise 10: "(0 for any e where there is none)"
    private static void secondOfAnyExponent() {
        for (Setting setting : Setting.ALL) {
            for (int i = 0; i < 100; i++) {
                int below = Integer.MIN_VALUE + i;
                int above = Integer.MAX_VALUE - i;
                LinkDiagram link = setting.build();
                Due.same("second(" + below + ")", link.second(below), 0);
                Due.same("second(" + above + ")", link.second(above), 0);
            }
            setting.answers("second(least)", 0, link -> link.second(Integer.MIN_VALUE));
            setting.answers("second(greatest)", 0, link -> link.second(Integer.MAX_VALUE));
            setting.answers("second(-1)", 0, link -> link.second(-1));
        }
        for (int bit = 3; bit < 31; bit++) {
            LinkDiagram link = Due.braid(2, 1, 1, 1, 1, 1, 1, 1, 1);
            for (int near = 0; near <= 7; near++) {
                Due.same("second", link.second((1 << bit) + near), 0);
                Due.same("second", link.second(-(1 << bit) + near), 0);
            }
        }
        overAllIntegers(false);
    }

    // Promise 10: "The coefficient of t to the power e", at the outermost that there are
    private static void secondAtItsOutermost() {
        Due.second(new LinkDiagram(), 1);
        Due.second(Due.braid(2, 1, 1, 1, 1, 1, 1, 1, 1), -1, 1, -1, 1, -1, 1, -1, 1);
        Due.second(Due.braid(2, -1, -1, -1, -1, -1, -1, -1, -1), -1, 1, -1, 1, -1, 1, -1, 1);
        Due.second(Due.braid(3, 1, -2, 1, -2, 1, -2, 1, -2), 1, -5, 10, -13, 10, -5, 1);
    }
}
