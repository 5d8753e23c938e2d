/** Promises 9 and 10, with polynomials that are known from tables of knots and links. */
public final class PolynomialsTest {
    public static void main(String[] args) {
        unknots();
        unlinks();
        trefoils();
        torusLinks();
        otherKnots();
        anyEdges();
        borromeanRings();
        splitLinks();
        twelveComponents();
        farExponents();
        Due.finish();
    }

    private static void unknots() {
        for (LinkDiagram link : new LinkDiagram[] {
            new LinkDiagram(), Due.braid(2, 1), Due.braid(2, -1), Due.braid(4, 1, -2, 3), Due.braid(4, -1, -2, -3),
            Due.braid(3, 1, -2), Due.braid(2, 1, -1, 1), Due.braid(2, 1, 1, 1, -1, -1)}) {
            Due.first(link, 0, 1);
            Due.second(link, 1);
        }
    }

    private static void unlinks() {
        Due.first(Due.braid(2), 2, -1, -2, -1);
        Due.first(Due.braid(3), 4, 1, 0, 2, -4, 1);
        Due.first(Due.braid(4), 6, -1, 2, -3, -2, -3, -6, -1);
        Due.first(Due.braid(2, 1, -1), 2, -1, -2, -1);
        for (int n = 2; n <= 4; n++) {
            Due.second(Due.braid(n));
        }
    }

    private static void trefoils() {
        LinkDiagram right = Due.braid(2, 1, 1, 1);
        Due.first(right, -4, 1, -12, 1, -16, -1);
        Due.second(right, 1, -1, 1);
        LinkDiagram left = Due.braid(2, -1, -1, -1);
        Due.first(left, 4, 1, 12, 1, 16, -1);
        Due.second(left, 1, -1, 1);
    }

    private static void torusLinks() {
        Due.first(Due.braid(2, 1, 1), -2, -1, -10, -1);
        Due.second(Due.braid(2, 1, 1), -1, 1);
        Due.first(Due.braid(2, -1, -1), 2, -1, 10, -1);
        Due.second(Due.braid(2, -1, -1), -1, 1);
        Due.first(Due.braid(2, 1, 1, 1, 1), -6, -1, -14, -1, -18, 1, -22, -1);
        Due.second(Due.braid(2, 1, 1, 1, 1), -1, 1, -1, 1);
        Due.first(Due.braid(2, 1, 1, 1, 1, 1), -8, 1, -16, 1, -20, -1, -24, 1, -28, -1);
        Due.second(Due.braid(2, 1, 1, 1, 1, 1), 1, -1, 1, -1, 1);
        Due.second(Due.braid(2, -1, -1, -1, -1, -1, -1, -1), 1, -1, 1, -1, 1, -1, 1);
        Due.second(Due.braid(2, 1, 1, 1, 1, 1, 1, 1, 1), -1, 1, -1, 1, -1, 1, -1, 1);
        LinkDiagram eightNineteen = Due.braid(3, 1, 2, 1, 2, 1, 2, 1, 2);
        Due.first(eightNineteen, -12, 1, -20, 1, -32, -1);
        Due.second(eightNineteen, 1, -1, 0, 1, 0, -1, 1);
    }

    private static void otherKnots() {
        LinkDiagram eight = Due.braid(3, 1, -2, 1, -2);
        Due.first(eight, -8, 1, -4, -1, 0, 1, 4, -1, 8, 1);
        Due.second(eight, 1, -3, 1);
        // 6_2, 6_3 and 8_18.
        Due.second(Due.braid(3, -1, -1, -1, 2, -1, 2), 1, -3, 3, -3, 1);
        Due.second(Due.braid(3, -1, -1, 2, -1, 2, 2), 1, -3, 5, -3, 1);
        LinkDiagram eightEighteen = Due.braid(3, 1, -2, 1, -2, 1, -2, 1, -2);
        Due.second(eightEighteen, 1, -5, 10, -13, 10, -5, 1);
        Due.first(eightEighteen, -16, 1, -12, -4, -8, 6, -4, -7, 0, 9, 4, -7, 8, 6, 12, -4, 16, 1);
    }

    /** The figure eight with its edges named by every turn of 1 .. 32. */
    private static void anyEdges() {
        for (int shift = 0; shift < 32; shift++) {
            LinkDiagram eight = Due.braid(3, 1, -2, 1, -2);
            LinkDiagram link = new LinkDiagram();
            for (int x = 0; x < 4; x++) {
                int[] edges = new int[4];
                for (int k = 0; k < 4; k++) {
                    edges[k] = (eight.end(x, k) * 5 + shift) % 32 + 1;
                }
                link.cross(edges[0], edges[1], edges[2], edges[3], eight.end(x, 4) == 1);
            }
            Due.same("take(0)", link.take(0), 0);
            Due.first(link, -8, 1, -4, -1, 0, 1, 4, -1, 8, 1);
            Due.second(link, 1, -3, 1);
        }
    }

    private static void borromeanRings() {
        LinkDiagram rings = Due.braid(3, 1, -2, 1, -2, 1, -2);
        Due.first(rings, -12, -1, -8, 3, -4, -2, 0, 4, 4, -2, 8, 3, 12, -1);
        Due.second(rings, 1, -4, 6, -4, 1);
    }

    private static void splitLinks() {
        // A component that is nowhere below, and one that has no crossing with the others.
        Due.second(Due.braid(2, 1, -1));
        Due.second(Due.braid(3, 1, 1, 1));
        Due.second(Due.braid(4, 1, 1, 1, 3));
        LinkDiagram link = Due.braid(4, 1, 1, 3, 3);
        Due.second(link);
        Due.first(link, -2, -1, -6, -1, -10, -2, -14, -2, -18, -1, -22, -1);
    }

    private static void twelveComponents() {
        LinkDiagram link = new LinkDiagram();
        for (int i = 0; i < 8; i++) {
            Due.yes("cross", link.cross(2 * i + 1, 2 * i + 1, 2 * i + 2, 2 * i + 2, true));
        }
        Due.same("take(4)", link.take(4), 0);
        Due.counts(link, 8, 4, 12, 8, 24, 8);
        twelve(link);
        for (int left = 7; left >= 0; left--) {
            Due.yes("untwist(" + left / 2 + ")", link.untwist(left / 2));
        }
        Due.counts(link, 0, 12, 12, 0, 0, 0);
        twelve(link);
    }

    /** The eleventh power of -A^2 - A^-2. */
    private static void twelve(LinkDiagram link) {
        long[] binomial = {1, 11, 55, 165, 330, 462, 462, 330, 165, 55, 11, 1};
        for (int k = 0; k <= 11; k++) {
            Due.same("first(" + (22 - 4 * k) + ")", link.first(22 - 4 * k), -binomial[k]);
            Due.same("first(" + (20 - 4 * k) + ")", link.first(20 - 4 * k), 0);
        }
        Due.same("first(26)", link.first(26), 0);
        Due.same("first(-26)", link.first(-26), 0);
        Due.same("second(0)", link.second(0), 0);
    }

    private static void farExponents() {
        LinkDiagram[] links = {
            new LinkDiagram(), Due.braid(2, 1, 1, 1, 1, 1, 1, 1, 1), Due.braid(2, -1, -1, -1, -1, -1, -1, -1, -1)};
        for (LinkDiagram link : links) {
            for (int i = 0; i < 60; i++) {
                Due.same("first, far below", link.first(Integer.MIN_VALUE + i), 0);
                Due.same("first, far above", link.first(Integer.MAX_VALUE - i), 0);
                Due.same("second, far below", link.second(Integer.MIN_VALUE + i), 0);
                Due.same("second, far above", link.second(Integer.MAX_VALUE - i), 0);
            }
        }
    }
}
