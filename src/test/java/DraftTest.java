/** Promises 2, 3 and 4. */
public final class DraftTest {
    private static final int[] NO_EDGES = {0, 33, -1, 100, Integer.MIN_VALUE, Integer.MAX_VALUE};

    public static void main(String[] args) {
        crossTakesEdges();
        crossRefusesEdges();
        crossRefusesNinth();
        dropTakesOff();
        takeSetsDiagram();
        takeCircles();
        takeRefusesCircles();
        takeRefusesMisfits();
        takeRefusesUneven();
        takeAnswersTheFirst();
        refusedTakeKeepsAll();
        draftIsApart();
        Due.finish();
    }

    private static void crossTakesEdges() {
        LinkDiagram link = new LinkDiagram();
        Due.yes("cross(1, 32, ..)", link.cross(1, 32, 32, 1, false));
        Due.counts(link, 0, 1);
        Due.same("take(0)", link.take(0), 0);
        Due.crossing(link, 0, 1, 32, 32, 1, -1);
    }

    private static void crossRefusesEdges() {
        LinkDiagram link = new LinkDiagram();
        for (int edge : NO_EDGES) {
            Due.no("cross(" + edge + ", 1, 1, 1)", link.cross(edge, 1, 1, 1, true));
            Due.no("cross(1, " + edge + ", 1, 1)", link.cross(1, edge, 1, 1, true));
            Due.no("cross(1, 1, " + edge + ", 1)", link.cross(1, 1, edge, 1, false));
            Due.no("cross(1, 1, 1, " + edge + ")", link.cross(1, 1, 1, edge, false));
        }
        Due.yes("cross(1, 2, 3, 4)", link.cross(1, 2, 3, 4, true));
        Due.same("drop()", link.drop(), 0);
    }

    private static void crossRefusesNinth() {
        LinkDiagram link = new LinkDiagram();
        for (int i = 0; i < 8; i++) {
            Due.yes("cross " + i, link.cross(2 * i + 1, 2 * i + 1, 2 * i + 2, 2 * i + 2, true));
        }
        Due.no("cross, the ninth", link.cross(17, 17, 18, 18, true));
        Due.same("take(0)", link.take(0), 0);
        Due.counts(link, 8, 0, 8, 8, 24, 8);
        Due.crossing(link, 7, 15, 15, 16, 16, 1);
    }

    private static void dropTakesOff() {
        LinkDiagram link = new LinkDiagram();
        Due.same("drop()", link.drop(), 0);
        link.cross(1, 1, 2, 2, true);
        link.cross(3, 3, 4, 4, true);
        link.cross(5, 6, 7, 8, true);
        Due.same("drop()", link.drop(), 2);
        Due.same("take(0)", link.take(0), 0);
        Due.counts(link, 2, 0);
        Due.crossing(link, 0, 1, 1, 2, 2, 1);
        Due.crossing(link, 1, 3, 3, 4, 4, 1);
        Due.same("drop()", link.drop(), 0);
        Due.counts(link, 2, 0);
    }

    private static void takeSetsDiagram() {
        LinkDiagram link = new LinkDiagram();
        trefoil(link);
        Due.same("take(0)", link.take(0), 0);
        Due.counts(link, 3, 0, 1, 3, 5, 1);
        Due.crossing(link, 0, 2, 4, 3, 1, 1);
        Due.crossing(link, 1, 4, 6, 5, 3, 1);
        Due.crossing(link, 2, 6, 2, 1, 5, 1);
        Due.same("drop(), as the draft is empty", link.drop(), 0);
        Due.same("take(0), as the draft is empty", link.take(0), 1);
        Due.counts(link, 3, 0, 1, 3, 5, 1);
        link.cross(30, 31, 31, 30, false);
        Due.same("take(3)", link.take(3), 0);
        Due.counts(link, 1, 3, 4, -1, 3, 1);
        Due.crossing(link, 0, 30, 31, 31, 30, -1);
    }

    private static void takeCircles() {
        for (int circles = 1; circles <= 4; circles++) {
            LinkDiagram link = new LinkDiagram();
            Due.same("take(" + circles + ")", link.take(circles), 0);
            Due.counts(link, 0, circles, circles, 0, 0, 0);
            trefoil(link);
            Due.same("take(" + circles + ")", link.take(circles), 0);
            Due.counts(link, 3, circles, circles + 1, 3, 5, 1);
        }
    }

    private static void takeRefusesCircles() {
        LinkDiagram link = new LinkDiagram();
        for (int circles : new int[] {-1, 5, 0, Integer.MIN_VALUE, Integer.MAX_VALUE}) {
            Due.same("take(" + circles + ")", link.take(circles), 1);
        }
        trefoil(link);
        for (int circles : new int[] {-1, 5, Integer.MIN_VALUE, Integer.MAX_VALUE}) {
            Due.same("take(" + circles + ")", link.take(circles), 1);
        }
        Due.counts(link, 0, 1, 1, 0, 0, 0);
    }

    private static void takeRefusesMisfits() {
        refused(2, new int[][] {{1, 2, 3, 4, 1}});
        refused(2, new int[][] {{1, 1, 1, 1, 1}});
        refused(2, new int[][] {{1, 1, 1, 2, 1}});
        // Edge 1 goes out twice, or comes in twice.
        refused(2, new int[][] {{1, 1, 2, 2, -1}});
        refused(2, new int[][] {{1, 2, 2, 1, 1}});
        // The last edge alone is borne once, or three times.
        refused(2, new int[][] {{1, 1, 2, 2, 1}, {3, 3, 4, 5, 1}});
        refused(2, new int[][] {{1, 1, 2, 2, 1}, {3, 3, 2, 2, 1}});
        refused(2, new int[][] {{2, 4, 3, 1, -1}, {4, 6, 5, 3, 1}, {6, 2, 1, 5, 1}});
    }

    private static void takeRefusesUneven() {
        refused(3, new int[][] {{1, 2, 1, 2, 1}});
        refused(3, new int[][] {{1, 2, 1, 2, -1}});
        // One piece is flat, the other is not.
        refused(3, new int[][] {{5, 5, 6, 6, 1}, {1, 2, 1, 2, 1}});
        // The trefoil with one crossing's ends turned.
        refused(3, new int[][] {{2, 1, 3, 4, -1}, {4, 6, 5, 3, 1}, {6, 2, 1, 5, 1}});
        // Two strands that cross once, and a knot that would need a handle.
        refused(3, new int[][] {{1, 3, 2, 4, 1}, {2, 4, 1, 3, 1}});
    }

    private static void takeAnswersTheFirst() {
        LinkDiagram link = new LinkDiagram();
        link.cross(1, 2, 1, 2, true);
        Due.same("take(5)", link.take(5), 1);
        Due.same("take(4)", link.take(4), 3);
        link.cross(3, 4, 5, 6, true);
        Due.same("take(-1)", link.take(-1), 1);
        Due.same("take(0)", link.take(0), 2);
    }

    private static void refusedTakeKeepsAll() {
        LinkDiagram link = Due.braid(3, 1, 1);
        link.cross(7, 7, 8, 8, true);
        link.cross(1, 2, 1, 2, true);
        Due.same("take(1)", link.take(1), 3);
        Due.same("take(9)", link.take(9), 1);
        Due.counts(link, 2, 1, 3, 2, 4, 1);
        Due.same("drop()", link.drop(), 1);
        Due.same("take(1)", link.take(1), 0);
        Due.counts(link, 1, 1, 2, 1, 3, 1);
        Due.crossing(link, 0, 7, 7, 8, 8, 1);
    }

    private static void draftIsApart() {
        LinkDiagram link = Due.braid(2, 1, 1, 1);
        link.cross(7, 7, 8, 8, true);
        link.letter(2);
        Due.yes("twist(1, 0)", link.twist(1, 0));
        Due.yes("untwist(3)", link.untwist(3));
        Due.same("take(0)", link.take(0), 0);
        Due.counts(link, 1, 0, 1, 1, 3, 1);
        Due.yes("twist(7, 0)", link.twist(7, 0));
        Due.same("drop()", link.drop(), 0);
        // The word is kept, too.
        Due.no("braid(2)", link.braid(2));
        Due.yes("braid(3)", link.braid(3));
        Due.counts(link, 1, 1);
    }

    private static void refused(int answer, int[][] crossings) {
        LinkDiagram link = new LinkDiagram();
        for (int[] c : crossings) {
            Due.yes("cross", link.cross(c[0], c[1], c[2], c[3], c[4] == 1));
        }
        for (int circles = 0; circles <= 4; circles++) {
            Due.same("take(" + circles + ")", link.take(circles), answer);
        }
        Due.counts(link, 0, 1, 1, 0, 0, 0);
        Due.same("drop()", link.drop(), crossings.length - 1);
    }

    private static void trefoil(LinkDiagram link) {
        Due.yes("cross", link.cross(2, 4, 3, 1, true));
        Due.yes("cross", link.cross(4, 6, 5, 3, true));
        Due.yes("cross", link.cross(6, 2, 1, 5, true));
    }
}
