/** Promises 13 and 14. */
public final class PokeTest {
    private static final int[] STRAYS = {0, -1, 7, 33, 100, Integer.MIN_VALUE, Integer.MAX_VALUE};

    public static void main(String[] args) {
        rightAndLeft();
        leftAndRight();
        bothLeft();
        bothRight();
        neighboursOfACrossing();
        pokeRefuses();
        pokeRefusesOtherFaces();
        pokeRefusesTooMany();
        unpokeMakesCircles();
        unpokeNumbersAnew();
        unpokeJoinsInARow();
        unpokeRefuses();
        Due.finish();
    }

    // The edges of the trefoil: 1, 3, 5 are on the left of the braid, 2, 4, 6 on its right.

    private static void rightAndLeft() {
        LinkDiagram link = Due.braid(2, 1, 1, 1);
        Due.yes("poke(1, true, 2, false)", link.poke(1, true, 2, false));
        Due.crossing(link, 0, 10, 4, 3, 8, 1);
        Due.crossing(link, 3, 2, 7, 9, 1, 1);
        Due.crossing(link, 4, 9, 7, 10, 8, -1);
        pokedTrefoil(link);
    }

    private static void leftAndRight() {
        LinkDiagram link = Due.braid(2, 1, 1, 1);
        Due.yes("poke(2, false, 1, true)", link.poke(2, false, 1, true));
        Due.crossing(link, 0, 8, 4, 3, 10, 1);
        Due.crossing(link, 3, 1, 2, 9, 7, -1);
        Due.crossing(link, 4, 9, 8, 10, 7, 1);
        pokedTrefoil(link);
    }

    private static void bothLeft() {
        LinkDiagram link = Due.braid(2, 1, 1, 1);
        Due.yes("poke(1, false, 3, false)", link.poke(1, false, 3, false));
        Due.crossing(link, 0, 2, 4, 3, 8, 1);
        Due.crossing(link, 1, 4, 6, 5, 10, 1);
        Due.crossing(link, 3, 9, 7, 10, 1, 1);
        Due.crossing(link, 4, 3, 7, 9, 8, -1);
        pokedTrefoil(link);
    }

    private static void bothRight() {
        LinkDiagram link = Due.braid(2, 1, 1, 1);
        Due.yes("poke(2, true, 4, true)", link.poke(2, true, 4, true));
        Due.crossing(link, 0, 8, 4, 3, 1, 1);
        Due.crossing(link, 1, 10, 6, 5, 3, 1);
        Due.crossing(link, 3, 9, 2, 10, 7, -1);
        Due.crossing(link, 4, 4, 8, 9, 7, 1);
        pokedTrefoil(link);
    }

    /** A trefoil with a poke that makes the crossings 3 and 4; then takes the poke back. */
    private static void pokedTrefoil(LinkDiagram link) {
        Due.counts(link, 5, 0, 1, 3, 7, 1);
        Due.crossing(link, 2, 6, 2, 1, 5, 1);
        Due.first(link, -4, 1, -12, 1, -16, -1);
        Due.second(link, 1, -1, 1);
        Due.yes("unpoke(4, 3)", link.unpoke(4, 3));
        Due.counts(link, 3, 0, 1, 3, 5, 1);
        Due.crossing(link, 0, 2, 4, 3, 1, 1);
        Due.crossing(link, 1, 4, 6, 5, 3, 1);
        Due.crossing(link, 2, 6, 2, 1, 5, 1);
    }

    private static void neighboursOfACrossing() {
        // One crossing, both of whose edges are loops: 2 outside of 1.
        LinkDiagram link = Due.braid(2, 1);
        Due.yes("poke(1, true, 2, false)", link.poke(1, true, 2, false));
        Due.crossing(link, 0, 6, 2, 1, 4, 1);
        Due.crossing(link, 1, 2, 3, 5, 1, 1);
        Due.crossing(link, 2, 5, 3, 6, 4, -1);
        Due.first(link, 0, 1);
        Due.yes("unpoke(1, 2)", link.unpoke(1, 2));
        Due.crossing(link, 0, 2, 2, 1, 1, 1);
    }

    private static void pokeRefuses() {
        LinkDiagram link = Due.braid(2, 1, 1, 1);
        boolean[] sides = {false, true};
        for (boolean right : sides) {
            for (boolean fRight : sides) {
                for (int e = 1; e <= 6; e++) {
                    Due.no("poke of an edge over itself", link.poke(e, right, e, fRight));
                }
                for (int stray : STRAYS) {
                    Due.no("poke(" + stray + ", 1)", link.poke(stray, right, 1, fRight));
                    Due.no("poke(1, " + stray + ")", link.poke(1, right, stray, fRight));
                }
            }
        }
        Due.counts(link, 3, 0, 1, 3, 5, 1);
        Due.no("poke on a circle", new LinkDiagram().poke(1, true, 2, true));
        Due.no("poke on a circle", new LinkDiagram().poke(0, true, 0, true));
    }

    private static void pokeRefusesOtherFaces() {
        int[] lefts = {1, 3, 5};
        int[] rights = {2, 4, 6};
        for (int i = 0; i < 3; i++) {
            for (int j = 0; j < 3; j++) {
                int a = lefts[i];
                int b = rights[j];
                // Outer faces on the left and on the right, and one between each two neighbours.
                accepted(i != j, a, false, lefts[j], false);
                accepted(i != j, b, true, rights[i], true);
                accepted(false, a, true, lefts[j], true);
                accepted(false, b, false, rights[i], false);
                accepted(i == j, a, true, b, false);
                accepted(i == j, b, false, a, true);
                accepted(false, a, false, b, true);
                accepted(false, a, true, b, true);
                accepted(false, a, false, b, false);
                accepted(false, a, false, lefts[j], true);
                accepted(false, b, false, rights[i], true);
            }
        }
        // Two pieces have no face together.
        LinkDiagram two = Due.braid(4, 1, 3);
        for (int side = 0; side < 4; side++) {
            Due.no("poke(2, 3)", two.poke(2, side % 2 == 0, 3, side / 2 == 0));
        }
        Due.counts(two, 2, 0, 2, 2, 6, 2);
    }

    private static void accepted(boolean want, int e, boolean right, int f, boolean fRight) {
        LinkDiagram link = Due.braid(2, 1, 1, 1);
        String call = "poke(" + e + ", " + right + ", " + f + ", " + fRight + ")";
        Due.same(call, link.poke(e, right, f, fRight) ? 1 : 0, want ? 1 : 0);
        Due.same(call + ", then count(0)", link.count(0), want ? 5 : 3);
        Due.same(call + ", then count(4)", link.count(4), want ? 7 : 5);
    }

    private static void pokeRefusesTooMany() {
        LinkDiagram seven = Due.braid(2, 1, 1, 1, 1, 1, 1, 1);
        Due.no("poke with 7 crossings", seven.poke(1, true, 2, false));
        Due.counts(seven, 7, 0, 1, 7, 9, 1);
        LinkDiagram eight = Due.braid(2, 1, 1, 1, 1, 1, 1, 1, 1);
        Due.no("poke with 8 crossings", eight.poke(1, true, 2, false));
        LinkDiagram six = Due.braid(2, 1, 1, 1, 1, 1, 1);
        Due.yes("poke with 6 crossings", six.poke(1, true, 2, false));
        Due.counts(six, 8, 0, 2, 6, 10, 1);
        Due.crossing(six, 7, 15, 13, 16, 14, -1);
        Due.yes("unpoke(6, 7)", six.unpoke(6, 7));
        Due.counts(six, 6, 0, 2, 6, 8, 1);
    }

    private static void unpokeMakesCircles() {
        // Two rings, one lying over the other.
        LinkDiagram link = Due.braid(3, 1, -1);
        Due.counts(link, 2, 1, 3, 0, 4, 1);
        Due.yes("unpoke(0, 1)", link.unpoke(0, 1));
        Due.counts(link, 0, 3, 3, 0, 0, 0);
        Due.no("unpoke(0, 1)", link.unpoke(0, 1));
        // A knot of three crossings that becomes one.
        link = Due.braid(2, 1, -1, 1);
        Due.yes("unpoke(0, 1)", link.unpoke(0, 1));
        Due.counts(link, 1, 0, 1, 1, 3, 1);
    }

    private static void unpokeNumbersAnew() {
        LinkDiagram link = Due.braid(3, 2, 1, -1, 2);
        Due.crossing(link, 0, 3, 5, 4, 2, 1);
        Due.crossing(link, 1, 4, 7, 6, 1, 1);
        Due.crossing(link, 2, 6, 7, 9, 1, -1);
        Due.crossing(link, 3, 5, 3, 2, 9, 1);
        Due.no("unpoke(0, 3)", link.unpoke(0, 3));
        Due.yes("unpoke(2, 1)", link.unpoke(2, 1));
        // The upper strand was the ring 1, 7; the lower one came by 4 and went on by 9.
        Due.counts(link, 2, 1, 3, 2, 4, 1);
        Due.crossing(link, 0, 3, 5, 4, 2, 1);
        Due.crossing(link, 1, 5, 3, 2, 4, 1);
    }

    private static void unpokeJoinsInARow() {
        // The upper strand 1, 2, 3 and the lower one 3, 4, 1: one circle is left.
        LinkDiagram link = new LinkDiagram();
        link.cross(4, 1, 1, 2, false);
        link.cross(3, 3, 4, 2, true);
        Due.same("take(0)", link.take(0), 0);
        Due.yes("unpoke(0, 1)", link.unpoke(0, 1));
        Due.counts(link, 0, 1, 1, 0, 0, 0);
        // The upper strand's q = 3 is the lower one's r, and s = 5 goes on.
        link.cross(4, 1, 5, 2, false);
        link.cross(3, 3, 4, 2, true);
        link.cross(5, 1, 6, 6, true);
        Due.same("take(0)", link.take(0), 0);
        Due.yes("unpoke(1, 0)", link.unpoke(1, 0));
        Due.counts(link, 1, 0, 1, 1, 3, 1);
        Due.crossing(link, 0, 1, 1, 6, 6, 1);
        // The lower strand's s = 1 is the upper one's p, and q = 5 goes on.
        link.cross(4, 1, 1, 2, false);
        link.cross(3, 5, 4, 2, true);
        link.cross(5, 3, 6, 6, true);
        Due.same("take(0)", link.take(0), 0);
        Due.yes("unpoke(0, 1)", link.unpoke(0, 1));
        Due.counts(link, 1, 0, 1, 1, 3, 1);
        Due.crossing(link, 0, 3, 3, 6, 6, 1);
    }

    private static void unpokeRefuses() {
        LinkDiagram link = Due.braid(2, 1, 1, -1);
        Due.no("unpoke(0, 1), alternating", link.unpoke(0, 1));
        Due.no("unpoke(1, 1)", link.unpoke(1, 1));
        Due.no("unpoke(1, 3)", link.unpoke(1, 3));
        Due.no("unpoke(3, 1)", link.unpoke(3, 1));
        for (int stray : new int[] {-1, 8, 9, Integer.MIN_VALUE, Integer.MAX_VALUE}) {
            Due.no("unpoke(1, " + stray + ")", link.unpoke(1, stray));
            Due.no("unpoke(" + stray + ", 1)", link.unpoke(stray, 1));
            Due.no("unpoke(stray, stray)", link.unpoke(stray, stray));
        }
        Due.counts(link, 3, 0, 1, 1, 5, 1);
        Due.yes("unpoke(1, 2)", link.unpoke(1, 2));
        Due.counts(link, 1, 0, 1, 1, 3, 1);
        // A face with three ends is none with two.
        LinkDiagram three = Due.braid(3, 1, 2, 1);
        Due.no("unpoke(0, 1)", three.unpoke(0, 1));
        Due.no("unpoke(1, 2)", three.unpoke(1, 2));
        Due.counts(three, 3, 0, 2, 3, 5, 1);
    }
}
