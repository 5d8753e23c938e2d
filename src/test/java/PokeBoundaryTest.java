import java.util.Arrays;

/** The sentences of the promises 13 and 14 that name a boundary case, each in its own method. */
public final class PokeBoundaryTest {
    private static final boolean[] SIDES = {false, true};

    public static void main(String[] args) {
        pokeRefusesMoreThanSix();
        pokeRefusesEdges();
        pokeRefusesTheSameEdge();
        pokeRefusesOtherFaces();
        pokeRefusesOtherPieces();
        unpokeTakesTheLeastEnd();
        unpokeRefusesTheSame();
        unpokeRefusesCrossings();
        unpokeRefusesLengths();
        unpokeRefusesOtherCrossings();
        unpokeRefusesStrandsThatChange();
        Due.finish();
    }

    private static String call(int e, boolean right, int f, boolean fRight) {
        return "poke(" + e + ", " + right + ", " + f + ", " + fRight + ")";
    }

    private static void refuses(Setting setting, int e, int f) {
        for (boolean right : SIDES) {
            for (boolean fRight : SIDES) {
                setting.refuses(call(e, right, f, fRight), link -> link.poke(e, right, f, fRight));
            }
        }
    }

    // Promise 13: "false, refused, when there are more than 6 crossings"
    private static void pokeRefusesMoreThanSix() {
        for (int many = 1; many <= 8; many++) {
            int[] word = new int[many];
            Arrays.fill(word, 1);
            Setting setting = new Setting(many + " crossings", Setting.read(Due.braid(2, word)), 1)
                .draft(0, new int[][] {{31, 31, 32, 32, 1}}, new int[0][]).word(2, 2);
            if (many > 6) {
                refuses(setting, 1, 2);
                refuses(setting, 2, 1);
                refuses(setting, 3, 4);
                continue;
            }
            LinkDiagram link = setting.build();
            Due.yes("poke with " + many, link.poke(1, true, 2, false));
            Due.counts(link, many + 2, 1, 1 + 2 - many % 2, many, many + 4, 1);
            int e1 = 2 * many + 1;
            Due.crossing(link, many, 2, e1, e1 + 2, 1, 1);
            Due.crossing(link, many + 1, e1 + 2, e1, e1 + 3, e1 + 1, -1);
        }
        // The six have the greatest edges, and all four new ones are free below them.
        LinkDiagram link = Setting.taken(0, Setting.loops(6, 21));
        Due.yes("poke(31, true, 32, false)", link.poke(31, true, 32, false));
        Due.crossing(link, 5, 2, 4, 32, 31, -1);
        Due.crossing(link, 6, 32, 1, 3, 31, 1);
        Due.crossing(link, 7, 3, 1, 4, 2, -1);
        Due.no("poke with 8", link.poke(21, false, 22, true));
        Due.same("count(0)", link.count(0), 8);
    }

    // Promise 13: "e or f does not occur"
    private static void pokeRefusesEdges() {
        int[] wrong = {0, -1, 7, 8, 31, 32, 33, Integer.MIN_VALUE, Integer.MAX_VALUE};
        for (int edge : wrong) {
            for (int there = 1; there <= 6; there++) {
                refuses(Setting.SOME, edge, there);
                refuses(Setting.SOME, there, edge);
            }
            refuses(Setting.SOME, edge, edge);
            refuses(Setting.FRESH, edge, 1);
            refuses(Setting.FRESH, edge, 2);
        }
        // 3 .. 6 are in the draft alone.
        for (int edge = 3; edge <= 6; edge++) {
            refuses(Setting.UNEVEN, 1, edge);
            refuses(Setting.UNEVEN, edge, 2);
            refuses(Setting.UNEVEN, edge, edge == 6 ? 3 : edge + 1);
        }
        // The bounds, where they occur.
        LinkDiagram bounds = Setting.taken(0, new int[] {1, 1, 32, 32, 1});
        Due.yes("poke(1, false, 32, true)", bounds.poke(1, false, 32, true));
        Setting.isDiagram("poke, ", bounds,
            new int[][] {{3, 1, 32, 5, 1}, {32, 1, 4, 2, -1}, {4, 3, 5, 2, 1}}, 0);
    }

    // Promise 13: "they are the same"
    private static void pokeRefusesTheSameEdge() {
        for (int edge = 1; edge <= 6; edge++) {
            refuses(Setting.SOME, edge, edge);
        }
        refuses(Setting.UNEVEN, 1, 1);
        refuses(Setting.UNEVEN, 2, 2);
        // One of the sides is a face that the edge has alone.
        Setting loops = new Setting("loops", new int[][] {{2, 5, 1, 1, 1}, {3, 3, 2, 5, 1}}, 0);
        for (int edge : new int[] {1, 2, 3, 5}) {
            refuses(loops, edge, edge);
        }
    }

    // Promise 13: "or the two faces are not the same."
    private static void pokeRefusesOtherFaces() {
        for (int e = 1; e <= 6; e++) {
            for (int f = 1; f <= 6; f++) {
                for (boolean right : SIDES) {
                    for (boolean fRight : SIDES) {
                        if (e != f) {
                            pokeOfTheTrefoil(e, right, f, fRight);
                        }
                    }
                }
            }
        }
    }

    private static void pokeOfTheTrefoil(int e, boolean right, int f, boolean fRight) {
        if (trefoilFace(e, right) != trefoilFace(f, fRight)) {
            Setting.SOME.refuses(call(e, right, f, fRight), link -> link.poke(e, right, f, fRight));
            return;
        }
        LinkDiagram link = Setting.SOME.build();
        Due.yes(call(e, right, f, fRight), link.poke(e, right, f, fRight));
        Due.counts(link, 5, 2, 3, 3, 7, 1);
        Due.yes("unpoke(3, 4)", link.unpoke(3, 4));
        Setting.SOME.keptParts(call(e, right, f, fRight) + ", unpoke(3, 4)", link);
    }

    /** The left one of the odd edges, the right one of the even ones, and one between 1 and 2, 3 and 4, 5 and 6. */
    private static int trefoilFace(int edge, boolean right) {
        if (edge % 2 == 1) {
            return right ? edge : -1;
        }
        return right ? -2 : edge - 1;
    }

    /** The same: edges of two pieces, and edges of one whose faces meet at a crossing alone. */
    private static void pokeRefusesOtherPieces() {
        Setting pieces = new Setting("two pieces", new int[][] {{1, 1, 2, 2, 1}, {3, 4, 4, 3, -1}}, 2).word(1);
        for (int e = 1; e <= 2; e++) {
            for (int f = 3; f <= 4; f++) {
                refuses(pieces, e, f);
                refuses(pieces, f, e);
            }
        }
        // Of the sides of 1 and 2 the outer ones alone are the same face.
        Setting loop = new Setting("loop", new int[][] {{1, 1, 2, 2, 1}}, 1);
        loop.refuses("poke(1, true, 2, true)", link -> link.poke(1, true, 2, true));
        loop.refuses("poke(1, true, 2, false)", link -> link.poke(1, true, 2, false));
        loop.refuses("poke(1, false, 2, false)", link -> link.poke(1, false, 2, false));
        LinkDiagram link = loop.build();
        Due.yes("poke(1, false, 2, true)", link.poke(1, false, 2, true));
        Setting.isDiagram("poke, ", link, new int[][] {{4, 1, 2, 6, 1}, {2, 1, 5, 3, -1}, {5, 4, 6, 3, 1}}, 1);
    }

    // Promise 14: "(Of several the one with the least end of x is meant.)"
    private static void unpokeTakesTheLeastEnd() {
        // Two rings that have four such faces; whichever is meant, both become circles.
        int[][] words = {{1, -1}, {-1, 1}};
        for (int[] word : words) {
            for (int order = 0; order < 2; order++) {
                LinkDiagram link = Due.braid(3, word);
                Due.yes("unpoke", link.unpoke(order, 1 - order));
                Due.counts(link, 0, 3, 3, 0, 0, 0);
            }
        }
        // A ring about a strand has two: the ring becomes a circle, and the strand keeps its first edge.
        for (int order = 0; order < 2; order++) {
            LinkDiagram above = Due.braid(3, 2, 1, -1, 2);
            Due.yes("unpoke", above.unpoke(1 + order, 2 - order));
            Setting.isDiagram("unpoke, ", above, new int[][] {{3, 5, 4, 2, 1}, {5, 3, 2, 4, 1}}, 1);
            LinkDiagram below = Due.braid(3, 2, -1, 1, 2);
            Due.yes("unpoke", below.unpoke(1 + order, 2 - order));
            Setting.isDiagram("unpoke, ", below, new int[][] {{3, 5, 4, 2, 1}, {5, 3, 2, 4, 1}}, 1);
        }
    }

    // Promise 14: "false, refused, when x and y are the same"
    private static void unpokeRefusesTheSame() {
        for (Setting setting : Setting.ALL) {
            for (int x = -1; x <= 8; x++) {
                int each = x;
                setting.refuses("unpoke(" + x + ", " + x + ")", link -> link.unpoke(each, each));
            }
        }
        // A face that has two ends, both at the same crossing; and crossings that can be pulled apart.
        new Setting("loop", new int[][] {{1, 1, 2, 2, 1}}, 0).refuses("unpoke(0, 0)", link -> link.unpoke(0, 0));
        Setting rings = new Setting("rings", Setting.read(Due.braid(2, 1, -1)), 0);
        rings.refuses("unpoke(0, 0)", link -> link.unpoke(0, 0));
        rings.refuses("unpoke(1, 1)", link -> link.unpoke(1, 1));
    }

    // Promise 14: "one is not there"
    private static void unpokeRefusesCrossings() {
        Setting rings = new Setting("rings", Setting.read(Due.braid(2, 1, -1)), 0)
            .draft(0, Setting.loops(3, 1), new int[0][]).word(-2);
        for (int stray : new int[] {-1, 2, 3, 4, 8, 9, Integer.MIN_VALUE, Integer.MAX_VALUE}) {
            for (int x = 0; x < 2; x++) {
                int there = x;
                rings.refuses("unpoke(" + x + ", " + stray + ")", link -> link.unpoke(there, stray));
                rings.refuses("unpoke(" + stray + ", " + x + ")", link -> link.unpoke(stray, there));
            }
            Setting.FRESH.refuses("unpoke(0, " + stray + ")", link -> link.unpoke(0, stray));
        }
        Setting.FRESH.refuses("unpoke(0, 1)", link -> link.unpoke(0, 1));
        // There once, but no more.
        LinkDiagram gone = rings.build();
        Due.yes("unpoke(0, 1)", gone.unpoke(0, 1));
        Due.no("unpoke(0, 1)", gone.unpoke(0, 1));
        Due.counts(gone, 0, 2, 2, 0, 0, 0);
        // The greatest that there can be.
        LinkDiagram eight = Due.braid(2, 1, 1, 1, 1, 1, 1, 1, -1);
        Due.no("unpoke(7, 8)", eight.unpoke(7, 8));
        Due.yes("unpoke(7, 6)", eight.unpoke(7, 6));
        Due.counts(eight, 6, 0, 2, 6, 8, 1);
    }

    // Promise 14: "or there is no such face": "a face has exactly two ends"
    private static void unpokeRefusesLengths() {
        // Faces with three ends, one edge of which is upper at both, and with four.
        Setting three = new Setting("three", Setting.read(Due.braid(3, 1, 2, 1)), 0);
        three.refuses("unpoke(0, 1)", link -> link.unpoke(0, 1));
        three.refuses("unpoke(1, 2)", link -> link.unpoke(1, 2));
        Setting four = new Setting("four", Setting.read(Due.braid(3, 1, 2, -1, -2)), 0);
        four.refuses("unpoke(0, 3)", link -> link.unpoke(0, 3));
        four.refuses("unpoke(0, 1)", link -> link.unpoke(0, 1));
        four.refuses("unpoke(2, 3)", link -> link.unpoke(2, 3));
        // Faces with one end.
        Setting chain = new Setting("chain", Setting.read(Due.braid(3, 1, 2)), 0);
        chain.refuses("unpoke(0, 1)", link -> link.unpoke(0, 1));
        chain.refuses("unpoke(1, 0)", link -> link.unpoke(1, 0));
    }

    // Promise 14: "or there is no such face": "one at crossing x and one at crossing y"
    private static void unpokeRefusesOtherCrossings() {
        // 0 and 1 can be pulled apart, and so can 2 and 3; no other two.
        Setting rings = new Setting("rings", Setting.read(Due.braid(4, 1, -1, 3, -3)), 0).word(1, 2, 3);
        for (int x = 0; x < 4; x++) {
            for (int y = 0; y < 4; y++) {
                int one = x;
                int two = y;
                if (x / 2 != y / 2) {
                    rings.refuses("unpoke(" + x + ", " + y + ")", link -> link.unpoke(one, two));
                } else if (x != y) {
                    LinkDiagram link = rings.build();
                    Due.yes("unpoke(" + x + ", " + y + ")", link.unpoke(x, y));
                    Due.counts(link, 2, 2, 4, 0, 4, 1);
                }
            }
        }
    }

    // Promise 14: "or there is no such face": "of its two edges one is at upper ends (1 or 3) at both, the
    // other at lower ends (0 or 2) at both"
    private static void unpokeRefusesStrandsThatChange() {
        int[] letters = {1, -1};
        for (int a : letters) {
            for (int b : letters) {
                for (int c : letters) {
                    Setting setting = new Setting("braid", Setting.read(Due.braid(2, a, b, c)), 0).word(3);
                    unpokeWhereSignsDiffer(setting, 0, 1, a != b);
                    unpokeWhereSignsDiffer(setting, 1, 2, b != c);
                    unpokeWhereSignsDiffer(setting, 2, 0, c != a);
                }
            }
        }
    }

    private static void unpokeWhereSignsDiffer(Setting setting, int x, int y, boolean differ) {
        if (!differ) {
            setting.refuses("unpoke(" + x + ", " + y + ")", link -> link.unpoke(x, y));
            setting.refuses("unpoke(" + y + ", " + x + ")", link -> link.unpoke(y, x));
            return;
        }
        for (int order = 0; order < 2; order++) {
            LinkDiagram link = setting.build();
            int writhe = link.count(3);
            Due.yes("unpoke", order == 0 ? link.unpoke(x, y) : link.unpoke(y, x));
            Due.counts(link, 1, 0, 1, writhe, 3, 1);
        }
    }
}
