import java.util.Arrays;

/** The sentences of the promises 2, 3 and 4 that name a boundary case, each in its own method. */
public final class DraftBoundaryTest {
    public static void main(String[] args) {
        crossRefusesTheNinth();
        crossRefusesEdges();
        dropAnswersHowManyAreLeft();
        dropOfNone();
        takeEmptiesTheDraft();
        takeRefusesCircles();
        movesMakeMoreCircles();
        takeRefusesNothingAtAll();
        takeRefusesWhatDoesNotFit();
        takeRefusesWhatIsNotFlat();
        takeAnswersTheFirstThatIsSo();
        Due.finish();
    }

    // Promise 2: "false, refused, when the draft has 8"
    private static void crossRefusesTheNinth() {
        for (int many = 0; many <= 8; many++) {
            LinkDiagram link = new LinkDiagram();
            Setting.draw(link, Setting.loops(many, 1));
            boolean got = link.cross(31, 31, 32, 32, true);
            Due.same("cross with " + many, got ? 1 : 0, many < 8 ? 1 : 0);
            Due.same("take(0)", link.take(0), 0);
            Due.same("count(0)", link.count(0), many < 8 ? many + 1 : 8);
            Due.same("the last one's edge", link.end(link.count(0) - 1, 2), many < 8 ? 32 : 16);
        }
        Setting.FULL.refuses("cross(1, 1, 2, 2)", link -> link.cross(1, 1, 2, 2, true));
        Setting.FULL.refuses("cross(31, 32, 32, 31)", link -> link.cross(31, 32, 32, 31, false));
        // A place is free again after a drop, and eight are after a take.
        LinkDiagram link = Setting.FULL.build();
        Due.same("drop()", link.drop(), 7);
        Due.yes("cross", link.cross(31, 31, 32, 32, true));
        Due.no("cross", link.cross(1, 1, 2, 2, true));
        Due.same("take(0)", link.take(0), 0);
        Due.crossing(link, 7, 31, 31, 32, 32, 1);
        Setting.draw(link, Setting.loops(8, 1));
        Due.no("cross", link.cross(31, 31, 32, 32, true));
    }

    // Promise 2: "or one of the edges is not 1 .. 32."
    private static void crossRefusesEdges() {
        int[] wrong = {0, 33, -1, 34, Integer.MIN_VALUE, Integer.MAX_VALUE};
        for (Setting setting : Setting.ALL) {
            for (int edge : wrong) {
                setting.refuses("cross at end 0 " + edge, link -> link.cross(edge, 1, 2, 3, true));
                setting.refuses("cross at end 1 " + edge, link -> link.cross(1, edge, 2, 3, false));
                setting.refuses("cross at end 2 " + edge, link -> link.cross(1, 2, edge, 3, true));
                setting.refuses("cross at end 3 " + edge, link -> link.cross(1, 2, 3, edge, false));
            }
        }
        for (int k = 0; k < 4; k++) {
            for (int edge : new int[] {1, 2, 31, 32}) {
                int[] edges = {16, 16, 16, 16};
                edges[k] = edge;
                LinkDiagram link = new LinkDiagram();
                Due.yes("cross with " + edge, link.cross(edges[0], edges[1], edges[2], edges[3], true));
                Due.same("drop()", link.drop(), 0);
            }
        }
        // Both bounds, seen at each end in the diagram.
        Due.crossing(Setting.taken(0, new int[] {1, 1, 32, 32, 1}), 0, 1, 1, 32, 32, 1);
        Due.crossing(Setting.taken(0, new int[] {32, 32, 1, 1, 1}), 0, 32, 32, 1, 1, 1);
    }

    // Promise 3: "Takes the last crossing off the draft; answers how many are left"
    private static void dropAnswersHowManyAreLeft() {
        for (int many = 0; many <= 8; many++) {
            for (int drops = 0; drops <= many; drops++) {
                LinkDiagram link = new LinkDiagram();
                Setting.draw(link, Setting.loops(many, 1));
                for (int left = many - 1; left >= many - drops; left--) {
                    Due.same("drop()", link.drop(), left);
                }
                int left = many - drops;
                Due.same("take(0)", link.take(0), left == 0 ? 1 : 0);
                Setting.isDiagram("drop, take, ", link, Setting.loops(left, 1), left == 0 ? 1 : 0);
            }
        }
    }

    // Promise 3: "(0 also when there was none)"
    private static void dropOfNone() {
        Setting.FRESH.answers("drop()", 0, link -> link.drop());
        Setting.FRESH.answers("drop() twice", 0, link -> link.drop() + link.drop());
        LinkDiagram link = Setting.SOME.build();
        Due.same("drop(), the only one", link.drop(), 0);
        Due.same("drop(), none", link.drop(), 0);
        Due.same("drop(), none", link.drop(), 0);
        // The diagram's crossings and the word's letters are none of the draft's.
        Setting.isDiagram("drop, ", link, Setting.TREFOIL, 2);
        Due.yes("cross", link.cross(5, 5, 6, 6, true));
        Due.same("take(3)", link.take(3), 0);
        Setting.isDiagram("drop, take, ", link, new int[][] {{5, 5, 6, 6, 1}}, 3);
        Due.same("drop(), none after a take", link.drop(), 0);
        Setting.isDiagram("drop, take, drop, ", link, new int[][] {{5, 5, 6, 6, 1}}, 3);
        Due.yes("braid(4)", link.braid(4));
        Due.same("count(0)", link.count(0), 2);
    }

    // Promise 4: "The draft's crossings and so many circles become the diagram, and the draft is empty: 0."
    private static void takeEmptiesTheDraft() {
        for (int circles = 0; circles <= 4; circles++) {
            LinkDiagram link = Setting.FULL.build();
            Due.same("take(" + circles + ")", link.take(circles), 0);
            Setting.isDiagram("take, ", link, Setting.loops(8, 5), circles);
            Due.same("take(0) of an empty draft", link.take(0), 1);
            Due.same("drop() of an empty draft", link.drop(), 0);
            // The word is no part of it.
            Due.no("letter", link.letter(1));
            Due.yes("braid(4)", link.braid(4));
            Due.same("count(0)", link.count(0), 8);
        }
        LinkDiagram link = Setting.FULL.build();
        Due.same("take(0)", link.take(0), 0);
        Due.same("take(2), circles alone", link.take(2), 0);
        Due.counts(link, 0, 2, 2, 0, 0, 0);
    }

    // Promise 4: "1 circles is not 0 .. 4"
    private static void takeRefusesCircles() {
        for (Setting setting : Setting.ALL) {
            for (int circles : new int[] {-1, 5, -2, 6, Integer.MIN_VALUE, Integer.MAX_VALUE}) {
                setting.answers("take(" + circles + ")", 1, link -> link.take(circles));
            }
        }
        for (int circles = 0; circles <= 4; circles++) {
            Due.counts(Setting.taken(circles, Setting.TREFOIL), 3, circles, circles + 1, 3, 5, 1);
        }
        for (int circles = 1; circles <= 4; circles++) {
            Due.counts(Setting.taken(circles), 0, circles, circles, 0, 0, 0);
        }
    }

    // Promise 4: "(of take alone: moves may make more;)"
    private static void movesMakeMoreCircles() {
        LinkDiagram link = Setting.taken(4, Setting.loops(8, 1));
        for (int circles = 5; circles <= 12; circles++) {
            Due.yes("untwist(0)", link.untwist(0));
            Due.counts(link, 12 - circles, circles, 12, circles % 2 == 0 ? 0 : -1, 3 * (12 - circles), 12 - circles);
        }
        Due.same("first(22)", link.first(22), -1);
        Due.same("first(-22)", link.first(-22), -1);
        Due.same("first(18)", link.first(18), -11);
        Due.same("first(2)", link.first(2), -462);
        Due.same("second(0)", link.second(0), 0);
        Due.yes("twist(0, 0)", link.twist(0, 0));
        Due.same("count(1)", link.count(1), 11);
        LinkDiagram rings = Setting.taken(4, Setting.read(Due.braid(2, 1, -1)));
        Due.yes("unpoke(0, 1)", rings.unpoke(0, 1));
        Due.counts(rings, 0, 6, 6, 0, 0, 0);
        // take itself keeps to its bound then, too.
        Due.same("take(5)", rings.take(5), 1);
        Due.counts(rings, 0, 6, 6, 0, 0, 0);
        Due.same("take(4)", rings.take(4), 0);
        Due.counts(rings, 0, 4, 4, 0, 0, 0);
    }

    // Promise 4: "or it is 0 and the draft has no crossing"
    private static void takeRefusesNothingAtAll() {
        Setting.FRESH.answers("take(0)", 1, link -> link.take(0));
        new Setting("knot without a draft", Setting.TREFOIL, 2).word(1, 2).answers("take(0)", 1, link -> link.take(0));
        Due.counts(Setting.taken(1), 0, 1, 1, 0, 0, 0);
        Due.counts(Setting.taken(0, new int[] {1, 1, 2, 2, 1}), 1, 0, 1, 1, 3, 1);
    }

    // Promise 4: "2 the crossings don't fit"
    private static void takeRefusesWhatDoesNotFit() {
        for (int circles = 0; circles <= 4; circles++) {
            int c = circles;
            Setting.SOME.answers("take(" + c + ")", 2, link -> link.take(c));
        }
        // Fits but for one edge, in a draft of seven; and with it, eight.
        int[][] seven = Setting.read(Due.braid(3, 1, -2, 1, -2, 1, -2, 1, -2));
        int[][] last = {seven[7]};
        seven = Arrays.copyOf(seven, 7);
        Setting setting = new Setting("all but one", new int[][] {{1, 1, 2, 2, 1}}, 1).draft(0, seven, last).word(3);
        setting.answers("take(0)", 2, link -> link.take(0));
        setting.answers("take(4)", 2, link -> link.take(4));
        LinkDiagram whole = setting.build();
        Setting.draw(whole, last);
        Due.same("take(4)", whole.take(4), 0);
        Due.counts(whole, 8, 4, 5, 0, 10, 1);
    }

    // Promise 4: "3 they are not flat."
    private static void takeRefusesWhatIsNotFlat() {
        for (int circles = 0; circles <= 4; circles++) {
            int c = circles;
            Setting.UNEVEN.answers("take(" + c + ")", 3, link -> link.take(c));
        }
        // A piece that is not flat beside some that are: the faces are two too few.
        for (int many = 1; many <= 7; many++) {
            Setting loops = new Setting("loops and a piece", Setting.TREFOIL, 0)
                .draft(1, Setting.joined(Setting.loops(many, 1), new int[] {31, 32, 31, 32, 1}), new int[0][]);
            loops.answers("take(1)", 3, link -> link.take(1));
            LinkDiagram first = new LinkDiagram();
            Setting.draw(first, new int[] {31, 32, 31, 32, -1});
            Setting.draw(first, Setting.loops(many, 1));
            Due.same("take(0)", first.take(0), 3);
            Due.counts(first, 0, 1, 1, 0, 0, 0);
        }
        // Flat ones of one piece, two pieces and eight.
        Due.counts(Setting.taken(0, Setting.TREFOIL), 3, 0, 1, 3, 5, 1);
        Due.counts(Setting.taken(0, Setting.read(Due.braid(4, 1, 1, 3, 3))), 4, 0, 4, 4, 8, 2);
        Due.counts(Setting.taken(0, Setting.loops(8, 1)), 8, 0, 8, 0, 24, 8);
    }

    // Promise 4: "Otherwise refused with the first that is so"
    private static void takeAnswersTheFirstThatIsSo() {
        for (int circles : new int[] {-1, 5}) {
            Setting.SOME.answers("take(" + circles + "), doesn't fit", 1, link -> link.take(circles));
            Setting.UNEVEN.answers("take(" + circles + "), not flat", 1, link -> link.take(circles));
        }
        // One piece that doesn't fit, one that is not flat, in either order.
        for (int order = 0; order < 2; order++) {
            LinkDiagram link = new LinkDiagram();
            Setting.draw(link, order == 0 ? new int[] {1, 2, 1, 2, 1} : new int[] {3, 4, 5, 6, 1});
            Setting.draw(link, order == 0 ? new int[] {3, 4, 5, 6, 1} : new int[] {1, 2, 1, 2, 1});
            Due.same("take(5)", link.take(5), 1);
            Due.same("take(-1)", link.take(-1), 1);
            Due.same("take(0)", link.take(0), 2);
            Due.same("take(4)", link.take(4), 2);
            Due.same("drop()", link.drop(), 1);
            Due.same("take(0)", link.take(0), order == 0 ? 3 : 2);
            Due.same("take(4)", link.take(4), order == 0 ? 3 : 2);
            Due.counts(link, 0, 1, 1, 0, 0, 0);
        }
    }
}
