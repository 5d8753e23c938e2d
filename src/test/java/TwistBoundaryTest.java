/** The sentences of the promises 11 and 12 that name a boundary case, each in its own method. */
public final class TwistBoundaryTest {
    public static void main(String[] args) {
        twistOfACircle();
        twistOfTheLastCircle();
        twistOfTwelveCircles();
        twistWhereTheEdgeCameIn();
        twistRefusesEightCrossings();
        twistRefusesKinds();
        twistRefusesEdges();
        twistRefusesWithoutACircle();
        untwistAtEachTwoEnds();
        untwistAtTheLeastEnd();
        untwistRefusesCrossings();
        untwistRefusesEnds();
        Due.finish();
    }

    private static int[] twisted(int kind, int e, int f, int g) {
        switch (kind) {
            case 0:
                return new int[] {e, g, f, f, 1};
            case 1:
                return new int[] {e, f, f, g, -1};
            case 2:
                return new int[] {f, f, g, e, 1};
            default:
                return new int[] {f, e, g, f, -1};
        }
    }

    // Promise 11: "For edge = 0 a circle is twisted: one fewer, e and f are the first two free edges, and g is e."
    private static void twistOfACircle() {
        for (int kind = 0; kind < 4; kind++) {
            for (int circles = 1; circles <= 4; circles++) {
                LinkDiagram alone = Setting.taken(circles);
                Due.yes("twist(0, " + kind + ")", alone.twist(0, kind));
                Setting.isDiagram("twist, ", alone, new int[][] {twisted(kind, 1, 2, 1)}, circles - 1);
                LinkDiagram beside = Setting.taken(circles, Setting.TREFOIL);
                Due.yes("twist(0, " + kind + ")", beside.twist(0, kind));
                int[][] want = Setting.joined(Setting.TREFOIL, twisted(kind, 7, 8, 7));
                Setting.isDiagram("twist, ", beside, want, circles - 1);
                Due.same("count(2)", beside.count(2), circles + 1);
                // The free edges lie apart, and below those that occur.
                LinkDiagram apart = Setting.taken(circles, new int[] {1, 1, 3, 3, 1});
                Due.yes("twist(0, " + kind + ")", apart.twist(0, kind));
                want = new int[][] {{1, 1, 3, 3, 1}, twisted(kind, 2, 4, 2)};
                Setting.isDiagram("twist, ", apart, want, circles - 1);
            }
        }
    }

    /** The same, until there is none left. */
    private static void twistOfTheLastCircle() {
        LinkDiagram link = Setting.taken(4);
        for (int left = 3; left >= 0; left--) {
            Due.yes("twist(0, 0)", link.twist(0, 0));
            Due.counts(link, 4 - left, left, 4, 4 - left, 3 * (4 - left), 4 - left);
        }
        Due.no("twist(0, 0)", link.twist(0, 0));
        Setting.isDiagram("twist, ", link,
            new int[][] {{1, 1, 2, 2, 1}, {3, 3, 4, 4, 1}, {5, 5, 6, 6, 1}, {7, 7, 8, 8, 1}}, 0);
    }

    /** The same with more circles than can be taken. */
    private static void twistOfTwelveCircles() {
        LinkDiagram link = Setting.taken(4, Setting.loops(8, 17));
        for (int left = 7; left >= 0; left--) {
            Due.yes("untwist(0)", link.untwist(0));
        }
        for (int circles = 11; circles >= 4; circles--) {
            Due.yes("twist(0, 0)", link.twist(0, 0));
            Due.same("count(1)", link.count(1), circles);
        }
        Due.no("twist(0, 0), the ninth", link.twist(0, 0));
        Due.counts(link, 8, 4, 12, 8, 24, 8);
        Due.crossing(link, 7, 15, 15, 16, 16, 1);
    }

    // Promise 11: "g comes in where the edge e came in before."
    private static void twistWhereTheEdgeCameIn() {
        // Edges 1 and 2 come in at the same crossing that they go out of; then both at one place each.
        for (int kind = 0; kind < 4; kind++) {
            LinkDiagram loop = Setting.taken(0, new int[] {1, 1, 2, 2, 1});
            Due.yes("twist(1, " + kind + ")", loop.twist(1, kind));
            Setting.isDiagram("twist, ", loop, new int[][] {{4, 1, 2, 2, 1}, twisted(kind, 1, 3, 4)}, 0);
            loop = Setting.taken(0, new int[] {1, 1, 2, 2, 1});
            Due.yes("twist(2, " + kind + ")", loop.twist(2, kind));
            Setting.isDiagram("twist, ", loop, new int[][] {{1, 1, 2, 4, 1}, twisted(kind, 2, 3, 4)}, 0);
            loop = Setting.taken(0, new int[] {1, 2, 2, 1, -1});
            Due.yes("twist(2, " + kind + ")", loop.twist(2, kind));
            Setting.isDiagram("twist, ", loop, new int[][] {{1, 4, 2, 1, -1}, twisted(kind, 2, 3, 4)}, 0);
        }
    }

    // Promise 11: "false, refused, when there are 8 crossings"
    private static void twistRefusesEightCrossings() {
        for (int kind = 0; kind < 4; kind++) {
            int k = kind;
            for (int edge = 0; edge <= 32; edge++) {
                int e = edge;
                Setting.FULL.refuses("twist(" + e + ", " + k + ")", link -> link.twist(e, k));
                Setting.LOOPS.refuses("twist(" + e + ", " + k + ")", link -> link.twist(e, k));
            }
            for (int edge = 0; edge <= 14; edge++) {
                LinkDiagram link = Setting.SEVEN.build();
                Due.yes("twist(" + edge + ", " + kind + ")", link.twist(edge, kind));
                Due.same("count(0)", link.count(0), 8);
                Due.same("count(1)", link.count(1), edge == 0 ? 0 : 1);
                int[] last = edge == 0 ? twisted(kind, 15, 16, 15) : twisted(kind, edge, 15, 16);
                Due.crossing(link, 7, last[0], last[1], last[2], last[3], last[4]);
            }
        }
    }

    // Promise 11: "kind is not 0 .. 3"
    private static void twistRefusesKinds() {
        for (Setting setting : new Setting[] {Setting.FRESH, Setting.SOME, Setting.UNEVEN, Setting.SEVEN}) {
            for (int kind : new int[] {-1, 4, -2, 5, Integer.MIN_VALUE, Integer.MAX_VALUE}) {
                setting.refuses("twist(0, " + kind + ")", link -> link.twist(0, kind));
                setting.refuses("twist(1, " + kind + ")", link -> link.twist(1, kind));
            }
        }
        for (int kind = 0; kind <= 3; kind++) {
            Due.yes("twist(0, " + kind + ")", Setting.FRESH.build().twist(0, kind));
            Due.yes("twist(1, " + kind + ")", Setting.SOME.build().twist(1, kind));
        }
    }

    // Promise 11: "edge is not 0 and does not occur"
    private static void twistRefusesEdges() {
        for (int kind = 0; kind < 4; kind++) {
            int k = kind;
            for (int edge : new int[] {-1, -2, 33, 34, Integer.MIN_VALUE, Integer.MAX_VALUE}) {
                for (Setting setting : Setting.ALL) {
                    setting.refuses("twist(" + edge + ", " + k + ")", link -> link.twist(edge, k));
                }
            }
            for (int edge = 1; edge <= 32; edge++) {
                int e = edge;
                Setting.FRESH.refuses("twist(" + e + ", " + k + ")", link -> link.twist(e, k));
                if (edge > 6) {
                    Setting.SOME.refuses("twist(" + e + ", " + k + ")", link -> link.twist(e, k));
                } else {
                    Due.yes("twist(" + e + ", " + k + ")", Setting.SOME.build().twist(e, k));
                }
                // The draft has 3 .. 6 besides.
                if (edge > 2) {
                    Setting.UNEVEN.refuses("twist(" + e + ", " + k + ")", link -> link.twist(e, k));
                }
            }
        }
        // Both bounds occur here.
        Setting bounds = new Setting("bounds", new int[][] {{1, 1, 32, 32, 1}}, 0);
        for (int edge = 1; edge <= 32; edge++) {
            int e = edge;
            if (edge == 1 || edge == 32) {
                Due.yes("twist(" + e + ", 0)", bounds.build().twist(e, 0));
            } else {
                bounds.refuses("twist(" + e + ", 0)", link -> link.twist(e, 0));
            }
        }
    }

    // Promise 11: "or it is 0 and there is no circle."
    private static void twistRefusesWithoutACircle() {
        for (int kind = 0; kind < 4; kind++) {
            int k = kind;
            Setting.UNEVEN.refuses("twist(0, " + k + ")", link -> link.twist(0, k));
            new Setting("knot", Setting.TREFOIL, 0).refuses("twist(0, " + k + ")", link -> link.twist(0, k));
            Due.yes("twist(0, " + k + ")", Setting.taken(1, Setting.TREFOIL).twist(0, k));
            LinkDiagram link = new LinkDiagram();
            Due.yes("twist(0, " + k + ")", link.twist(0, k));
            Due.no("twist(0, " + k + ")", link.twist(0, k));
            Due.counts(link, 1, 0, 1, k % 2 == 0 ? 1 : -1, 3, 1);
        }
    }

    // Promise 12: "two ends k and k + 1 (or 3 and 0) bear the same edge"
    private static void untwistAtEachTwoEnds() {
        // In the last crossing of two, and in the first.
        int[][] loops = {{9, 9, 8, 7, 1}, {7, 9, 9, 8, -1}, {7, 8, 9, 9, 1}, {9, 7, 8, 9, -1}};
        for (int[] loop : loops) {
            LinkDiagram last = Setting.taken(0, new int[] {8, 7, 4, 4, 1}, loop);
            Due.yes("untwist(1)", last.untwist(1));
            Setting.isDiagram("untwist(1), ", last, new int[][] {{7, 7, 4, 4, 1}}, 0);
            LinkDiagram first = Setting.taken(0, loop, new int[] {8, 7, 4, 4, 1});
            Due.yes("untwist(0)", first.untwist(0));
            Setting.isDiagram("untwist(0), ", first, new int[][] {{7, 7, 4, 4, 1}}, 0);
        }
        // In the eighth crossing, of each kind, at each edge.
        for (int edge = 1; edge <= 14; edge++) {
            for (int kind = 0; kind < 4; kind++) {
                LinkDiagram link = Setting.SEVEN.build();
                Due.yes("twist(" + edge + ", " + kind + ")", link.twist(edge, kind));
                Due.yes("untwist(7)", link.untwist(7));
                Setting.SEVEN.keptParts("twist(" + edge + ", " + kind + "), untwist(7)", link);
            }
        }
    }

    // Promise 12: "k is the least such end."
    private static void untwistAtTheLeastEnd() {
        // Two loops at one crossing: whichever is taken out, the other becomes a circle.
        int[][] loops = {{1, 1, 2, 2, 1}, {2, 2, 1, 1, 1}, {1, 2, 2, 1, -1}, {2, 1, 1, 2, -1}};
        for (int[] loop : loops) {
            LinkDiagram alone = Setting.taken(0, loop);
            Due.yes("untwist(0)", alone.untwist(0));
            Due.counts(alone, 0, 1, 1, 0, 0, 0);
            LinkDiagram beside = Setting.taken(4, new int[] {3, 3, 4, 4, 1}, loop, new int[] {5, 6, 6, 5, -1});
            Due.yes("untwist(1)", beside.untwist(1));
            Setting.isDiagram("untwist(1), ", beside, new int[][] {{3, 3, 4, 4, 1}, {5, 6, 6, 5, -1}}, 5);
        }
    }

    // Promise 12: "false, refused, when there is no such crossing"
    private static void untwistRefusesCrossings() {
        for (Setting setting : Setting.ALL) {
            for (int x : new int[] {-1, 8, 9, -4, 32, Integer.MIN_VALUE, Integer.MAX_VALUE}) {
                setting.refuses("untwist(" + x + ")", link -> link.untwist(x));
            }
        }
        for (int many = 0; many <= 8; many++) {
            Setting loops = new Setting("loops", Setting.loops(many, 1), many == 0 ? 1 : 0);
            for (int x = 0; x <= 8; x++) {
                int each = x;
                if (x >= many) {
                    loops.refuses("untwist(" + x + ")", link -> link.untwist(each));
                } else {
                    LinkDiagram link = loops.build();
                    Due.yes("untwist(" + x + ")", link.untwist(x));
                    Due.counts(link, many - 1, 1);
                }
            }
        }
        // The draft's loops are not the diagram's.
        Setting.LOOPS.refuses("untwist(8)", link -> link.untwist(8));
        Setting.SEVEN.refuses("untwist(7)", link -> link.untwist(7));
    }

    // Promise 12: "or no such ends."
    private static void untwistRefusesEnds() {
        int[][] words = {{1, 1}, {1, -1}, {1, 1, 1}, {-1, -1, -1}, {1, 1, -1, -1}, {1, -2, 1, -2}};
        for (int[] word : words) {
            LinkDiagram woven = Due.braid(3, word);
            Setting setting = new Setting("braid", Setting.read(woven), woven.count(1)).word(2);
            for (int x = 0; x < word.length; x++) {
                int each = x;
                setting.refuses("untwist(" + x + ")", link -> link.untwist(each));
            }
        }
        // Of these three crossings the first and the last alone are twists.
        Setting chain = new Setting("chain", Setting.read(Due.braid(4, 1, 2, 3)), 0);
        chain.refuses("untwist(1)", link -> link.untwist(1));
        LinkDiagram first = chain.build();
        Due.yes("untwist(0)", first.untwist(0));
        Setting.isDiagram("untwist(0), ", first, new int[][] {{3, 8, 2, 2, 1}, {4, 4, 3, 8, 1}}, 0);
        LinkDiagram last = chain.build();
        Due.yes("untwist(2)", last.untwist(2));
        Setting.isDiagram("untwist(2), ", last, new int[][] {{2, 6, 1, 1, 1}, {8, 8, 2, 6, 1}}, 0);
    }
}
