/** Promise 15. */
public final class SlideTest {
    private static final int[][] ORDERS = {{0, 1, 2}, {0, 2, 1}, {1, 0, 2}, {1, 2, 0}, {2, 0, 1}, {2, 1, 0}};

    public static void main(String[] args) {
        slidesInEveryOrder();
        slidesThereAndBack();
        slidesOfAllSigns();
        slidesTheLeastEndOfX();
        keepsOtherCrossings();
        refusesCrossings();
        refusesFaces();
        Due.finish();
    }

    private static void slidesInEveryOrder() {
        for (int[] order : ORDERS) {
            LinkDiagram link = Due.braid(3, 1, 2, 1);
            Due.yes("slide", link.slide(order[0], order[1], order[2]));
            Due.counts(link, 3, 0, 2, 3, 5, 1);
            Due.crossing(link, 0, 4, 3, 2, 5, 1);
            Due.crossing(link, 1, 6, 5, 1, 1, 1);
            Due.crossing(link, 2, 3, 4, 6, 2, 1);
            Due.first(link, -2, -1, -10, -1);
            Due.second(link, -1, 1);
        }
    }

    private static void slidesThereAndBack() {
        LinkDiagram link = Due.braid(3, 1, 2, 1);
        Due.yes("slide(0, 1, 2)", link.slide(0, 1, 2));
        Due.yes("slide(0, 1, 2)", link.slide(0, 1, 2));
        Due.crossing(link, 0, 2, 5, 4, 1, 1);
        Due.crossing(link, 1, 3, 3, 6, 5, 1);
        Due.crossing(link, 2, 6, 2, 1, 4, 1);
    }

    private static void slidesOfAllSigns() {
        for (int signs = 0; signs < 8; signs++) {
            int a = (signs & 1) == 0 ? 1 : -1;
            int b = (signs & 2) == 0 ? 1 : -1;
            int c = (signs & 4) == 0 ? 1 : -1;
            // Two letters more, so that the three crossings have one face alone together.
            LinkDiagram link = Due.braid(4, a, 2 * b, c, 3, 3);
            LinkDiagram same = Due.braid(4, a, 2 * b, c, 3, 3);
            boolean slides = a == b || b == c;
            Due.same("slide with signs " + a + b + c, link.slide(2, 0, 1) ? 1 : 0, slides ? 1 : 0);
            for (int e = -40; e <= 40; e++) {
                Due.same("first(" + e + ")", link.first(e), same.first(e));
            }
            Due.same("count(3)", link.count(3), same.count(3));
            Due.same("count(4)", link.count(4), 7);
            Due.same("moved", link.end(0, 0) == same.end(0, 0) ? 0 : 1, slides ? 1 : 0);
        }
    }

    private static void slidesTheLeastEndOfX() {
        // Two faces with three ends, at the ends 1 and 3 of crossing 0; both could slide.
        for (int[] order : ORDERS) {
            LinkDiagram link = Due.braid(2, -1, 1, 1);
            Due.crossing(link, 0, 1, 2, 4, 3, -1);
            Due.crossing(link, 1, 4, 6, 5, 3, 1);
            Due.crossing(link, 2, 6, 2, 1, 5, 1);
            Due.yes("slide", link.slide(order[0], order[1], order[2]));
            Due.crossing(link, 0, 4, 5, 5, 2, -1);
            Due.crossing(link, 1, 1, 1, 4, 6, 1);
            Due.crossing(link, 2, 3, 3, 6, 2, 1);
            Due.first(link, 0, 1);
        }
    }

    private static void keepsOtherCrossings() {
        LinkDiagram link = Due.braid(4, 3, 1, 2, 1, 3);
        Due.crossing(link, 0, 4, 6, 5, 3, 1);
        Due.crossing(link, 1, 2, 8, 7, 1, 1);
        Due.crossing(link, 2, 5, 10, 9, 8, 1);
        Due.crossing(link, 3, 9, 2, 1, 7, 1);
        Due.crossing(link, 4, 6, 4, 3, 10, 1);
        Due.yes("slide(3, 2, 1)", link.slide(3, 2, 1));
        Due.crossing(link, 0, 4, 6, 5, 3, 1);
        Due.crossing(link, 1, 7, 10, 2, 8, 1);
        Due.crossing(link, 2, 9, 8, 1, 1, 1);
        Due.crossing(link, 3, 5, 7, 9, 2, 1);
        Due.crossing(link, 4, 6, 4, 3, 10, 1);
    }

    private static void refusesCrossings() {
        LinkDiagram link = Due.braid(3, 1, 2, 1);
        for (int x = 0; x < 3; x++) {
            for (int y = 0; y < 3; y++) {
                Due.no("slide with two the same", link.slide(x, x, y));
                Due.no("slide with two the same", link.slide(x, y, x));
                Due.no("slide with two the same", link.slide(y, x, x));
            }
        }
        for (int stray : new int[] {3, 8, -1, Integer.MIN_VALUE, Integer.MAX_VALUE}) {
            Due.no("slide with " + stray, link.slide(stray, 1, 2));
            Due.no("slide with " + stray, link.slide(0, stray, 2));
            Due.no("slide with " + stray, link.slide(0, 1, stray));
        }
        Due.crossing(link, 0, 2, 5, 4, 1, 1);
        Due.crossing(link, 1, 3, 3, 6, 5, 1);
        Due.crossing(link, 2, 6, 2, 1, 4, 1);
    }

    private static void refusesFaces() {
        // Faces with three ends, but no edge that is upper at both ends.
        Due.no("slide of a trefoil", Due.braid(2, 1, 1, 1).slide(0, 1, 2));
        Due.no("slide of a trefoil", Due.braid(2, -1, -1, -1).slide(2, 1, 0));
        LinkDiagram eight = Due.braid(3, 1, -2, 1, -2);
        for (int[] order : ORDERS) {
            Due.no("slide of the figure eight", eight.slide(order[0], order[1], order[2] + 1));
            Due.no("slide of the figure eight", eight.slide(order[0], order[1], order[2]));
        }
        // No face with three ends at these crossings.
        Due.no("slide", Due.braid(2, 1, 1, 1, 1).slide(0, 1, 2));
        LinkDiagram four = Due.braid(4, 1, 2, 1, 3);
        Due.no("slide(0, 1, 3)", four.slide(0, 1, 3));
        Due.no("slide(1, 2, 3)", four.slide(1, 2, 3));
        Due.yes("slide(0, 1, 2)", four.slide(0, 1, 2));
        Due.no("slide of a circle", new LinkDiagram().slide(0, 1, 2));
    }
}
