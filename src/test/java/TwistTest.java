/** Promises 11 and 12. */
public final class TwistTest {
    private static final int[] STRAYS = {-1, -2, 100, Integer.MIN_VALUE, Integer.MAX_VALUE};

    public static void main(String[] args) {
        twistsOfAnEdge();
        twistsOfACircle();
        freeEdgesAreTheLeast();
        twistOfALoop();
        twistRefuses();
        twistRefusesNinth();
        untwistTakesOut();
        untwistNumbersAnew();
        untwistMakesCircles();
        untwistAtEveryEnd();
        untwistRefuses();
        Due.finish();
    }

    private static final int[][] ON_EDGE_ONE = {{1, 8, 7, 7, 1}, {1, 7, 7, 8, -1}, {7, 7, 8, 1, 1}, {7, 1, 8, 7, -1}};

    private static void twistsOfAnEdge() {
        for (int kind = 0; kind < 4; kind++) {
            LinkDiagram link = Due.braid(2, 1, 1, 1);
            Due.yes("twist(1, " + kind + ")", link.twist(1, kind));
            int[] c = ON_EDGE_ONE[kind];
            Due.counts(link, 4, 0, 1, 3 + c[4], 6, 1);
            // Edge 1 came in at end 3 of crossing 0, and goes out at end 2 of crossing 2.
            Due.crossing(link, 0, 2, 4, 3, 8, 1);
            Due.crossing(link, 1, 4, 6, 5, 3, 1);
            Due.crossing(link, 2, 6, 2, 1, 5, 1);
            Due.crossing(link, 3, c[0], c[1], c[2], c[3], c[4]);
            Due.second(link, 1, -1, 1);
            Due.first(link, -4, 1, -12, 1, -16, -1);
        }
    }

    private static void twistsOfACircle() {
        int[][] want = {{1, 1, 2, 2, 1}, {1, 2, 2, 1, -1}, {2, 2, 1, 1, 1}, {2, 1, 1, 2, -1}};
        for (int kind = 0; kind < 4; kind++) {
            LinkDiagram link = Due.braid(3);
            Due.yes("twist(0, " + kind + ")", link.twist(0, kind));
            int[] c = want[kind];
            Due.counts(link, 1, 2, 3, c[4], 3, 1);
            Due.crossing(link, 0, c[0], c[1], c[2], c[3], c[4]);
            Due.first(link, 4, 1, 0, 2, -4, 1);
            // The next circle, with the edges 3 and 4.
            Due.yes("twist(0, 0)", link.twist(0, 0));
            Due.crossing(link, 1, 3, 3, 4, 4, 1);
            Due.counts(link, 2, 1, 3, c[4] + 1, 6, 2);
        }
    }

    private static void freeEdgesAreTheLeast() {
        LinkDiagram link = new LinkDiagram();
        link.cross(2, 2, 5, 5, true);
        link.cross(1, 32, 32, 1, false);
        Due.same("take(1)", link.take(1), 0);
        Due.yes("twist(5, 0)", link.twist(5, 0));
        Due.crossing(link, 0, 2, 2, 5, 4, 1);
        Due.crossing(link, 2, 5, 4, 3, 3, 1);
        Due.yes("twist(0, 3)", link.twist(0, 3));
        Due.crossing(link, 3, 7, 6, 6, 7, -1);
    }

    private static void twistOfALoop() {
        // Both ends of the edge are at the same crossing.
        LinkDiagram link = Due.braid(2, 1);
        Due.yes("twist(1, 1)", link.twist(1, 1));
        Due.crossing(link, 0, 2, 2, 1, 4, 1);
        Due.crossing(link, 1, 1, 3, 3, 4, -1);
        Due.counts(link, 2, 0, 1, 0, 4, 1);
    }

    private static void twistRefuses() {
        LinkDiagram link = Due.braid(2, 1, 1, 1);
        Due.no("twist(0, 0) without a circle", link.twist(0, 0));
        Due.no("twist(7, 0)", link.twist(7, 0));
        Due.no("twist(32, 0)", link.twist(32, 0));
        Due.no("twist(33, 0)", link.twist(33, 0));
        Due.no("twist(1, 4)", link.twist(1, 4));
        for (int stray : STRAYS) {
            Due.no("twist(" + stray + ", 0)", link.twist(stray, 0));
            Due.no("twist(1, " + stray + ")", link.twist(1, stray));
        }
        Due.counts(link, 3, 0, 1, 3, 5, 1);
        Due.crossing(link, 0, 2, 4, 3, 1, 1);
        LinkDiagram circle = new LinkDiagram();
        Due.no("twist(0, 4)", circle.twist(0, 4));
        Due.no("twist(0, -1)", circle.twist(0, -1));
        Due.no("twist(1, 0)", circle.twist(1, 0));
        Due.counts(circle, 0, 1);
    }

    private static void twistRefusesNinth() {
        LinkDiagram link = Due.braid(3, 1, 1, 1, 1, 1, 1, 1);
        Due.yes("twist(1, 0)", link.twist(1, 0));
        Due.no("twist(1, 0), the ninth", link.twist(1, 0));
        Due.no("twist(0, 0), the ninth", link.twist(0, 0));
        Due.counts(link, 8, 1, 2, 8, 10, 1);
        Due.yes("untwist(7)", link.untwist(7));
        Due.yes("twist(0, 1)", link.twist(0, 1));
        Due.counts(link, 8, 0, 2, 6, 12, 2);
        Due.no("twist(1, 0), the ninth", link.twist(1, 0));
    }

    private static void untwistTakesOut() {
        for (int kind = 0; kind < 4; kind++) {
            for (int edge = 1; edge <= 6; edge++) {
                LinkDiagram link = Due.braid(2, 1, 1, 1);
                Due.yes("twist", link.twist(edge, kind));
                Due.yes("untwist(3)", link.untwist(3));
                Due.counts(link, 3, 0, 1, 3, 5, 1);
                Due.crossing(link, 0, 2, 4, 3, 1, 1);
                Due.crossing(link, 1, 4, 6, 5, 3, 1);
                Due.crossing(link, 2, 6, 2, 1, 5, 1);
            }
        }
    }

    private static void untwistNumbersAnew() {
        LinkDiagram link = new LinkDiagram();
        link.cross(1, 1, 2, 2, true);
        link.cross(3, 4, 4, 3, false);
        link.cross(5, 5, 6, 6, true);
        Due.same("take(0)", link.take(0), 0);
        Due.yes("untwist(1)", link.untwist(1));
        Due.counts(link, 2, 1, 3, 2, 6, 2);
        Due.crossing(link, 0, 1, 1, 2, 2, 1);
        Due.crossing(link, 1, 5, 5, 6, 6, 1);
        // A crossing in the middle of a knot: p is the edge that stays.
        link = Due.braid(3, 1, -2, 1);
        Due.crossing(link, 1, 5, 3, 3, 6, -1);
        Due.yes("untwist(1)", link.untwist(1));
        Due.counts(link, 2, 0, 2, 2, 4, 1);
        Due.crossing(link, 0, 2, 5, 4, 1, 1);
        Due.crossing(link, 1, 5, 2, 1, 4, 1);
    }

    private static void untwistMakesCircles() {
        for (int kind = 0; kind < 4; kind++) {
            LinkDiagram link = Due.braid(2);
            Due.yes("twist(0, kind)", link.twist(0, kind));
            Due.yes("untwist(0)", link.untwist(0));
            Due.counts(link, 0, 2, 2, 0, 0, 0);
            Due.no("untwist(0)", link.untwist(0));
            Due.counts(link, 0, 2, 2, 0, 0, 0);
        }
    }

    private static void untwistAtEveryEnd() {
        // Two crossings; the loop lies at the ends 0 and 1, 1 and 2, 2 and 3, 3 and 0 of the first.
        int[][] first = {{9, 9, 8, 7, 1}, {7, 9, 9, 8, -1}, {7, 8, 9, 9, 1}, {9, 7, 8, 9, -1}};
        for (int[] c : first) {
            LinkDiagram link = new LinkDiagram();
            link.cross(c[0], c[1], c[2], c[3], c[4] == 1);
            link.cross(8, 7, 4, 4, true);
            Due.same("take(0)", link.take(0), 0);
            Due.yes("untwist(0)", link.untwist(0));
            Due.counts(link, 1, 0, 1, 1, 3, 1);
            Due.crossing(link, 0, 7, 7, 4, 4, 1);
        }
    }

    private static void untwistRefuses() {
        LinkDiagram link = Due.braid(2, 1, 1, 1);
        for (int x = 0; x <= 8; x++) {
            Due.no("untwist(" + x + ")", link.untwist(x));
        }
        for (int stray : STRAYS) {
            Due.no("untwist(" + stray + ")", link.untwist(stray));
        }
        Due.counts(link, 3, 0, 1, 3, 5, 1);
        // What was there before the diagram became smaller is no crossing any more.
        Due.yes("twist(1, 0)", link.twist(1, 0));
        Due.yes("untwist(3)", link.untwist(3));
        Due.no("untwist(3)", link.untwist(3));
        Due.counts(link, 3, 0, 1, 3, 5, 1);
    }
}
