/** The sentences of the document's section 'Terms' that name a boundary case, each in its own method. */
public final class TermsBoundaryTest {
    public static void main(String[] args) {
        atMostEightCrossings();
        edgesFromOneToThirtyTwo();
        greatestEdgesAreLikeTheLeast();
        crossingsFit();
        crossingsFitAtEveryPlace();
        beforeZeroIsThree();
        atFirst();
        secondIsZeroWithManyArcs();
        secondOfNoRows();
        secondWithoutPowersOfT();
        secondWithHighestAboveZero();
        joinOfTheSameEdge();
        joinOfTwoEdges();
        joinSaysFurtherOn();
        othersKeepTheirOrder();
        freeEdgesLeastFirst();
        refusedChangesNothing();
        usedForFiveHundredAndTwelveCalls();
        Due.finish();
    }

    // "A DIAGRAM has CROSSINGS, at most 8"
    private static void atMostEightCrossings() {
        LinkDiagram drafted = Setting.SEVEN.build();
        Due.yes("cross, the eighth", drafted.cross(31, 31, 32, 32, true));
        Due.no("cross, the ninth", drafted.cross(1, 1, 2, 2, true));
        Due.same("take(0)", drafted.take(0), 0);
        Due.same("count(0)", drafted.count(0), 8);
        LinkDiagram woven = Setting.SEVEN.build();
        Due.yes("letter, the eighth", woven.letter(2));
        Due.no("letter, the ninth", woven.letter(2));
        Due.yes("braid(4)", woven.braid(4));
        Due.same("count(0)", woven.count(0), 8);
        for (int edge = 0; edge <= 14; edge++) {
            LinkDiagram twisted = Setting.SEVEN.build();
            Due.yes("twist to the eighth", twisted.twist(edge, 0));
            Due.no("twist to the ninth", twisted.twist(edge, 0));
            Due.no("twist to the ninth", twisted.twist(1, 0));
            Due.same("count(0)", twisted.count(0), 8);
        }
        LinkDiagram poked = Due.braid(2, 1, 1, 1, 1, 1, 1);
        Due.yes("poke to the eighth", poked.poke(1, true, 2, false));
        Due.no("poke to the tenth", poked.poke(3, true, 4, false));
        Due.same("count(0)", poked.count(0), 8);
        LinkDiagram seven = Setting.SEVEN.build();
        Due.no("poke to the ninth", seven.poke(1, true, 2, false));
        Due.same("count(0)", seven.count(0), 7);
    }

    // "each bearing an EDGE, a number 1 .. 32"
    private static void edgesFromOneToThirtyTwo() {
        for (int edge = 1; edge <= 32; edge++) {
            int other = 33 - edge;
            LinkDiagram link = Setting.taken(0, new int[] {edge, edge, other, other, 1});
            Due.crossing(link, 0, edge, edge, other, other, 1);
            link = Setting.taken(0, new int[] {edge, other, other, edge, -1});
            Due.crossing(link, 0, edge, other, other, edge, -1);
        }
        for (int edge : new int[] {0, 33}) {
            LinkDiagram link = new LinkDiagram();
            Due.no("cross with " + edge, link.cross(edge, edge, 1, 1, true));
            Due.no("cross with " + edge, link.cross(1, 1, edge, edge, true));
            Due.no("cross with " + edge, link.cross(1, edge, edge, 1, false));
            Due.same("drop()", link.drop(), 0);
        }
    }

    /** The same: the greatest edges are as good as the least in every answer. */
    private static void greatestEdgesAreLikeTheLeast() {
        int[][] words = {{1}, {1, -1}, {1, 1, 1}, {1, -2, 1, -2}, {1, 2, 3, -1, 2}, {1, -2, 1, -2, 1, -2, 1, -2}};
        for (int[] word : words) {
            LinkDiagram low = Due.braid(4, word);
            int[][] crossings = Setting.read(low);
            for (int[] crossing : crossings) {
                for (int k = 0; k < 4; k++) {
                    crossing[k] = 33 - crossing[k];
                }
            }
            LinkDiagram high = Setting.taken(low.count(1), crossings);
            for (int k = 0; k <= 5; k++) {
                Due.same("count(" + k + ")", high.count(k), low.count(k));
            }
            for (int e = -60; e <= 60; e++) {
                Due.same("first(" + e + ")", high.first(e), low.first(e));
                Due.same("second(" + e + ")", high.second(e), low.second(e));
            }
        }
    }

    // "Crossings FIT when each edge that occurs is borne by exactly two ends, and comes in at one of
    // them and goes out at the other."
    private static void crossingsFit() {
        takeAnswers(0, new int[][] {{1, 1, 2, 2, 1}});
        takeAnswers(0, new int[][] {{1, 2, 2, 1, -1}});
        // Borne once.
        takeAnswers(2, new int[][] {{1, 1, 2, 3, 1}});
        takeAnswers(2, new int[][] {{1, 2, 3, 4, 1}});
        takeAnswers(2, new int[][] {{1, 2, 3, 4, -1}});
        takeAnswers(2, new int[][] {{2, 4, 3, 1, 1}, {4, 6, 5, 3, 1}});
        // Borne three times, four times, six times.
        takeAnswers(2, new int[][] {{1, 1, 1, 2, 1}});
        takeAnswers(2, new int[][] {{1, 1, 1, 2, 1}, {2, 3, 3, 2, -1}});
        takeAnswers(2, new int[][] {{1, 1, 1, 1, 1}});
        takeAnswers(2, new int[][] {{1, 1, 2, 2, 1}, {1, 1, 2, 2, 1}});
        takeAnswers(2, new int[][] {{1, 1, 1, 1, 1}, {1, 1, 2, 2, 1}});
        // Borne twice, coming in at both or going out at both.
        takeAnswers(2, new int[][] {{1, 2, 2, 1, 1}});
        takeAnswers(2, new int[][] {{1, 1, 2, 2, -1}});
        takeAnswers(2, new int[][] {{1, 3, 4, 2, 1}, {1, 3, 4, 2, 1}});
    }

    /** The same, with the flaw in each of eight crossings in turn, and at each end. */
    private static void crossingsFitAtEveryPlace() {
        for (int x = 0; x < 8; x++) {
            for (int k = 0; k < 4; k++) {
                int[][] once = Setting.loops(8, 1);
                takeAnswers(0, once);
                once[x][k] = 32;
                takeAnswers(2, once);
                int[][] thrice = Setting.loops(8, 1);
                thrice[x][k] = thrice[(x + 3) % 8][k];
                takeAnswers(2, thrice);
            }
            int[][] turned = Setting.loops(8, 1);
            turned[x][4] = -turned[x][4];
            takeAnswers(2, turned);
        }
    }

    private static void takeAnswers(int want, int[][] crossings) {
        LinkDiagram link = new LinkDiagram();
        Setting.draw(link, crossings);
        Due.same("take(0)", link.take(0), want);
        Due.same("count(0)", link.count(0), want == 0 ? crossings.length : 0);
    }

    // "to the end before it (before 0 is 3)"
    private static void beforeZeroIsThree() {
        // Each of these has a face that comes to end 0, and so goes on from end 3.
        int[][] loops = {{1, 1, 2, 2, 1}, {1, 2, 2, 1, -1}, {2, 2, 1, 1, 1}, {2, 1, 1, 2, -1}};
        for (int[] loop : loops) {
            Due.counts(Setting.taken(0, loop), 1, 0, 1, loop[4], 3, 1);
            Due.counts(Setting.taken(0, new int[] {3, 3, 4, 4, 1}, loop), 2, 0, 2, 1 + loop[4], 6, 2);
        }
        // End 3 of the trefoil's crossings lies in the faces with two ends alone: edges 1 and 2,
        // 3 and 4, 5 and 6 are beside one another, and no others.
        for (int e = 1; e <= 5; e += 2) {
            for (int f = 2; f <= 6; f += 2) {
                LinkDiagram link = Setting.taken(0, Setting.TREFOIL);
                Due.same("poke(" + e + ", " + f + ")", link.poke(e, true, f, false) ? 1 : 0, f == e + 1 ? 1 : 0);
                Due.same("count(4)", link.count(4), f == e + 1 ? 7 : 5);
            }
        }
        // A face that has end 3 of a crossing and comes there by its end 0.
        LinkDiagram two = Due.braid(2, 1, -1, 1);
        Due.yes("unpoke(1, 2)", two.unpoke(1, 2));
        Due.crossing(two, 0, 4, 4, 3, 3, 1);
    }

    // "At first the diagram has no crossings and one circle. There is besides a DRAFT (crossings, none
    // at first) and a WORD (of letters, none at first)."
    private static void atFirst() {
        LinkDiagram link = new LinkDiagram();
        Due.counts(link, 0, 1, 1, 0, 0, 0);
        for (int k = 0; k <= 4; k++) {
            Due.same("end(0, " + k + ")", link.end(0, k), LinkDiagram.NONE);
        }
        // No crossing in the draft: the first is alone there, and eight go in.
        Due.same("drop()", new LinkDiagram().drop(), 0);
        Due.same("take(0)", new LinkDiagram().take(0), 1);
        Due.counts(Setting.taken(0, new int[] {1, 1, 2, 2, 1}), 1, 0, 1, 1, 3, 1);
        Due.counts(Setting.taken(0, Setting.loops(8, 1)), 8, 0, 8, 0, 24, 8);
        // No letter in the word: the first is alone there, eight go in, and one strand is enough.
        Due.counts(Due.braid(1), 0, 1, 1, 0, 0, 0);
        Due.counts(Due.braid(2, 1), 1, 0, 1, 1, 3, 1);
        Due.counts(Due.braid(2, 1, 1, 1, 1, 1, 1, 1, 1), 8, 0, 2, 8, 10, 1);
        Setting.FRESH.answers("count(0)", 0, fresh -> fresh.count(0));
    }

    // "The polynomial is 0 when a - 1 is more than c"
    private static void secondIsZeroWithManyArcs() {
        // Without crossings: one arc is none too many, two are.
        Due.second(Setting.taken(1), 1);
        for (int circles = 2; circles <= 4; circles++) {
            Due.second(Setting.taken(circles));
        }
        // With c crossings and so many circles, a - 1 is c - 1, c, c + 1 and so on.
        Due.second(Setting.taken(0, Setting.TREFOIL), 1, -1, 1);
        Due.second(Setting.taken(0, new int[] {1, 1, 2, 2, 1}), 1);
        for (int circles = 1; circles <= 4; circles++) {
            Due.second(Setting.taken(circles, Setting.TREFOIL));
            Due.second(Setting.taken(circles, new int[] {1, 1, 2, 2, 1}));
            Due.second(Setting.taken(circles, Setting.loops(8, 1)));
        }
        // Two rings, one above the other: 3 arcs, 2 crossings; then circles besides.
        Due.second(Due.braid(2, 1, -1));
        Due.second(Due.braid(3, 1, -1));
        Due.second(Due.braid(4, 1, -1));
        // Twelve arcs more than crossings.
        LinkDiagram twelve = Setting.taken(4, Setting.loops(8, 1));
        for (int left = 7; left >= 0; left--) {
            Due.yes("untwist(" + left + ")", twelve.untwist(left));
        }
        Due.second(twelve);
    }

    // "otherwise the determinant of rows 0 .. a - 2 and columns 0 .. a - 2 (1 when there are none)"
    private static void secondOfNoRows() {
        Due.second(new LinkDiagram(), 1);
        for (int kind = 0; kind < 4; kind++) {
            LinkDiagram link = new LinkDiagram();
            Due.yes("twist(0, kind)", link.twist(0, kind));
            Due.second(link, 1);
        }
        // One row, and seven of them.
        Due.second(Due.braid(2, 1, 1), -1, 1);
        Due.second(Due.braid(2, 1, 1, 1, 1, 1, 1, 1, 1), -1, 1, -1, 1, -1, 1, -1, 1);
    }

    // "divided by the highest power of t that divides it"
    private static void secondWithoutPowersOfT() {
        // The determinants are 1; t, -t; t^2, -t^2; then t - t^2 and the like.
        Due.second(Due.braid(2, 1), 1);
        Due.second(Due.braid(2, -1, 1, 1), 1);
        Due.second(Due.braid(2, 1, -1, 1), 1);
        Due.second(Due.braid(3, -1, 2, 1, 2), 1);
        Due.second(Due.braid(3, -1, 1, 1, 2), 1);
        Due.second(Due.braid(2, -1, 1, 1, 1), -1, 1);
        Due.second(Due.braid(3, 1, 1, 1, 2), 1, -1, 1);
        Due.second(Due.braid(4, -2, 1, 1, 3), -1, 1);
        // An unknot with eight twists of each kind: seven rows.
        for (int kind = 0; kind < 4; kind++) {
            LinkDiagram link = new LinkDiagram();
            Due.yes("twist(0, kind)", link.twist(0, kind));
            for (int i = 1; i < 8; i++) {
                Due.yes("twist(1, kind)", link.twist(1, kind));
            }
            Due.second(link, 1);
        }
    }

    // "and by -1 if its highest coefficient is below 0."
    private static void secondWithHighestAboveZero() {
        // The determinants are -1, and 1 - t, -1 + t - t^2; then -1 + t, 1 - t + t^2.
        Due.second(Due.braid(3, -2, 1), 1);
        Due.second(Due.braid(2, 1, 1), -1, 1);
        Due.second(Due.braid(2, 1, 1, 1), 1, -1, 1);
        Due.second(Due.braid(2, -1, -1), -1, 1);
        Due.second(Due.braid(2, -1, -1, -1), 1, -1, 1);
        // t - t^2, and -t + t^2 - t^3.
        Due.second(Due.braid(2, 1, 1, 1, -1), -1, 1);
        Due.second(Due.braid(3, 1, 2, 1, 2), 1, -1, 1);
    }

    // "JOIN of p and q: when they are the same edge there is a circle more"
    private static void joinOfTheSameEdge() {
        for (int circles = 0; circles <= 4; circles++) {
            LinkDiagram loop = Setting.taken(circles, new int[] {1, 1, 2, 2, 1}, new int[] {3, 4, 4, 3, -1});
            Due.yes("untwist(0)", loop.untwist(0));
            Setting.isDiagram("untwist(0), ", loop, new int[][] {{3, 4, 4, 3, -1}}, circles + 1);
            Due.yes("untwist(0)", loop.untwist(0));
            Due.counts(loop, 0, circles + 2, circles + 2, 0, 0, 0);
            // Both joins of an unpoke, and the first alone.
            LinkDiagram rings = Setting.taken(circles, Setting.read(Due.braid(2, 1, -1)));
            Due.yes("unpoke(0, 1)", rings.unpoke(0, 1));
            Due.counts(rings, 0, circles + 2, circles + 2, 0, 0, 0);
            LinkDiagram upper = Setting.taken(circles, Setting.read(Due.braid(3, 2, 1, -1, 2)));
            Due.yes("unpoke(1, 2)", upper.unpoke(1, 2));
            Due.counts(upper, 2, circles + 1, circles + 3, 2, 4, 1);
        }
        // The second alone: the ring lies below.
        LinkDiagram lower = Due.braid(3, 2, -1, 1, 2);
        Due.yes("unpoke(1, 2)", lower.unpoke(1, 2));
        Setting.isDiagram("unpoke(1, 2), ", lower, new int[][] {{3, 5, 4, 2, 1}, {5, 3, 2, 4, 1}}, 1);
    }

    // "otherwise p comes in where q came in (q does not occur any more"
    private static void joinOfTwoEdges() {
        // The trefoil's edge 1, twisted: 1 comes in again where it did; 7 and 8 are free again.
        for (int kind = 0; kind < 4; kind++) {
            LinkDiagram link = Setting.taken(0, Setting.TREFOIL);
            Due.yes("twist(1, kind)", link.twist(1, kind));
            Due.same("end(0, 3)", link.end(0, 3), 8);
            Due.yes("untwist(3)", link.untwist(3));
            Setting.isDiagram("untwist(3), ", link, Setting.TREFOIL, 0);
            Due.no("twist(8, 0)", link.twist(8, 0));
            Due.no("twist(7, 0)", link.twist(7, 0));
        }
        // p is above q, and q is above p.
        LinkDiagram above = Setting.taken(0, new int[] {9, 9, 3, 8, 1}, new int[] {3, 8, 4, 4, 1});
        Due.yes("untwist(0)", above.untwist(0));
        Due.crossing(above, 0, 8, 8, 4, 4, 1);
        LinkDiagram below = Setting.taken(0, new int[] {9, 9, 8, 3, 1}, new int[] {8, 3, 4, 4, 1});
        Due.yes("untwist(0)", below.untwist(0));
        Due.crossing(below, 0, 3, 3, 4, 4, 1);
    }

    // "and where the move says q further on, p is meant)."
    private static void joinSaysFurtherOn() {
        // The upper strand goes out by q = 3, by which the lower one comes in: p = 1 goes on as s = 5.
        int[][] goesOn = {{4, 1, 5, 2, -1}, {3, 3, 4, 2, 1}, {5, 1, 6, 6, 1}};
        LinkDiagram link = Setting.taken(0, goesOn);
        Due.yes("unpoke(0, 1)", link.unpoke(0, 1));
        Setting.isDiagram("unpoke(0, 1), ", link, new int[][] {{1, 1, 6, 6, 1}}, 0);
        // Then s = 1 is p too, so that there is a circle.
        LinkDiagram ring = Setting.taken(2, new int[] {4, 1, 1, 2, -1}, new int[] {3, 3, 4, 2, 1});
        Due.yes("unpoke(0, 1)", ring.unpoke(0, 1));
        Due.counts(ring, 0, 3, 3, 0, 0, 0);
        // The lower strand goes out by s = 1, by which the upper one comes in.
        LinkDiagram comes = Setting.taken(0, new int[] {4, 1, 1, 2, -1}, new int[] {3, 5, 4, 2, 1},
            new int[] {5, 3, 6, 6, 1});
        Due.yes("unpoke(0, 1)", comes.unpoke(0, 1));
        Setting.isDiagram("unpoke(0, 1), ", comes, new int[][] {{3, 3, 6, 6, 1}}, 0);
    }

    // "When crossings are taken out, the others keep their order and are numbered anew."
    private static void othersKeepTheirOrder() {
        int[][] loops = Setting.loops(8, 1);
        for (int x = 0; x < 8; x++) {
            LinkDiagram link = Setting.taken(0, loops);
            Due.yes("untwist(" + x + ")", link.untwist(x));
            Setting.isDiagram("untwist(" + x + "), ", link, without(loops, x, x), 1);
            Due.same("end(7, 0)", link.end(7, 0), LinkDiagram.NONE);
            Due.no("untwist(7)", link.untwist(7));
        }
        // Two rings at any two places among loops.
        int[][] rings = {{21, 24, 23, 22, 1}, {23, 24, 21, 22, -1}};
        for (int one = 0; one < 8; one++) {
            for (int two = 0; two < 8; two++) {
                if (one == two) {
                    continue;
                }
                int[][] among = Setting.loops(8, 1);
                among[one] = rings[0];
                among[two] = rings[1];
                LinkDiagram link = Setting.taken(0, among);
                Due.yes("unpoke(" + one + ", " + two + ")", link.unpoke(one, two));
                Setting.isDiagram("unpoke, ", link, without(among, one, two), 2);
                Due.same("end(6, 0)", link.end(6, 0), LinkDiagram.NONE);
            }
        }
    }

    private static int[][] without(int[][] crossings, int one, int two) {
        int[][] left = new int[crossings.length - (one == two ? 1 : 2)][];
        int at = 0;
        for (int x = 0; x < crossings.length; x++) {
            if (x != one && x != two) {
                left[at] = crossings[x];
                at++;
            }
        }
        return left;
    }

    // "The FREE edges are those of 1 .. 32 that don't occur, least first."
    private static void freeEdgesLeastFirst() {
        // All from 19 on occur, or all up to 14; edges of the draft alone don't occur.
        LinkDiagram high = Setting.taken(1, Setting.loops(7, 19));
        Setting.draw(high, Setting.loops(2, 1));
        Due.yes("twist(0, 0)", high.twist(0, 0));
        Due.crossing(high, 7, 1, 1, 2, 2, 1);
        LinkDiagram low = Setting.taken(0, Setting.loops(7, 1));
        Due.yes("twist(14, 1)", low.twist(14, 1));
        Due.crossing(low, 7, 14, 15, 15, 16, -1);
        // Every second one occurs; then the two greatest alone.
        LinkDiagram gaps = Setting.taken(0, new int[] {2, 2, 4, 4, 1}, new int[] {6, 6, 8, 8, 1});
        Due.yes("poke(2, false, 4, true)", gaps.poke(2, false, 4, true));
        Due.crossing(gaps, 2, 4, 2, 5, 1, -1);
        Due.crossing(gaps, 3, 5, 3, 7, 1, 1);
        LinkDiagram top = Setting.taken(0, new int[] {32, 32, 31, 31, 1});
        Due.yes("twist(32, 0)", top.twist(32, 0));
        Due.crossing(top, 0, 2, 32, 31, 31, 1);
        Due.crossing(top, 1, 32, 2, 1, 1, 1);
    }

    // "A call that is refused changes nothing."
    private static void refusedChangesNothing() {
        for (Setting setting : Setting.ALL) {
            for (int far : Setting.FAR) {
                setting.refuses("cross", link -> link.cross(far, 1, 1, 1, true));
                setting.answers("take", 1, link -> link.take(far));
                setting.refuses("letter", link -> link.letter(far));
                setting.refuses("braid", link -> link.braid(far));
                setting.refuses("twist", link -> link.twist(far, 0));
                setting.refuses("untwist", link -> link.untwist(far));
                setting.refuses("poke", link -> link.poke(far, true, 1, true));
                setting.refuses("unpoke", link -> link.unpoke(far, 0));
                setting.refuses("slide", link -> link.slide(far, 0, 1));
            }
        }
    }

    // "An object is used for at most 512 calls after it has been made" (of the section 'What it is')
    private static void usedForFiveHundredAndTwelveCalls() {
        LinkDiagram link = new LinkDiagram();
        for (int calls = 0; calls < 508; calls += 2) {
            Due.yes("twist(0, kind)", link.twist(0, calls / 2 % 4));
            Due.yes("untwist(0)", link.untwist(0));
        }
        Due.same("call 509, count(0)", link.count(0), 0);
        Due.same("call 510, count(1)", link.count(1), 1);
        Due.same("call 511, second(0)", link.second(0), 1);
        Due.same("call 512, first(0)", link.first(0), 1);
    }
}
