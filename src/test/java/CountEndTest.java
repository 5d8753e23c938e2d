/** Promises 7 and 8. */
public final class CountEndTest {
    private static final int[] STRAYS = {-1, -2, -100, 100, Integer.MIN_VALUE, Integer.MAX_VALUE};

    public static void main(String[] args) {
        counts();
        countOfNothing();
        ends();
        endOfNothing();
        Due.finish();
    }

    private static void counts() {
        Due.counts(Due.braid(2, 1, 1, 1), 3, 0, 1, 3, 5, 1);
        Due.counts(Due.braid(2, -1, -1, -1, -1), 4, 0, 2, -4, 6, 1);
        Due.counts(Due.braid(3, 1, -2, 1, -2), 4, 0, 1, 0, 6, 1);
        Due.counts(Due.braid(3, 1, -2, 1, -2, 1, -2), 6, 0, 3, 0, 8, 1);
        Due.counts(Due.braid(4, 1, 1, 3), 3, 0, 3, 3, 7, 2);
        Due.counts(Due.braid(4, -1, -1, -1), 3, 2, 3, -3, 5, 1);
        LinkDiagram pieces = new LinkDiagram();
        pieces.cross(1, 1, 2, 2, true);
        pieces.cross(3, 4, 4, 3, false);
        pieces.cross(5, 6, 6, 5, false);
        Due.same("take(4)", pieces.take(4), 0);
        Due.counts(pieces, 3, 4, 7, -1, 9, 3);
        // A piece whose crossings hang together only by way of the last one.
        LinkDiagram chain = Due.braid(4, 1, 3, 2);
        Due.counts(chain, 3, 0, 1, 3, 5, 1);
    }

    private static void countOfNothing() {
        for (LinkDiagram link : new LinkDiagram[] {new LinkDiagram(), Due.braid(2, 1, 1)}) {
            Due.same("count(6)", link.count(6), -100);
            for (int k : STRAYS) {
                Due.same("count(" + k + ")", link.count(k), -100);
            }
        }
    }

    private static void ends() {
        LinkDiagram link = Due.braid(2, 1, 1, 1);
        Due.crossing(link, 0, 2, 4, 3, 1, 1);
        Due.crossing(link, 1, 4, 6, 5, 3, 1);
        Due.crossing(link, 2, 6, 2, 1, 5, 1);
        link = Due.braid(2, -1, -1, -1);
        Due.crossing(link, 0, 1, 2, 4, 3, -1);
        Due.crossing(link, 1, 3, 4, 6, 5, -1);
        Due.crossing(link, 2, 5, 6, 2, 1, -1);
    }

    private static void endOfNothing() {
        LinkDiagram link = Due.braid(2, 1, 1, 1);
        Due.same("end(3, 0)", link.end(3, 0), -100);
        Due.same("end(3, 4)", link.end(3, 4), -100);
        Due.same("end(7, 1)", link.end(7, 1), -100);
        Due.same("end(8, 1)", link.end(8, 1), -100);
        Due.same("end(0, 5)", link.end(0, 5), -100);
        Due.same("end(2, 5)", link.end(2, 5), -100);
        for (int stray : STRAYS) {
            Due.same("end(0, " + stray + ")", link.end(0, stray), -100);
            Due.same("end(" + stray + ", 0)", link.end(stray, 0), -100);
            Due.same("end(" + stray + ", 4)", link.end(stray, 4), -100);
        }
        // What a diagram had before is not there any more.
        Due.yes("braid(1)", link.braid(1));
        for (int k = 0; k <= 4; k++) {
            Due.same("end(0, " + k + ")", link.end(0, k), -100);
        }
    }
}
