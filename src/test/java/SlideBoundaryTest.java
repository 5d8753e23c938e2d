/** The sentences of promise 15 that name a boundary case, each in its own method. */
public final class SlideBoundaryTest {
    private static final int[][] ORDERS = {{0, 1, 2}, {0, 2, 1}, {1, 0, 2}, {1, 2, 0}, {2, 0, 1}, {2, 1, 0}};

    public static void main(String[] args) {
        slidesTheLeastEndOfX();
        slidesTheLeastEndAmongOthers();
        refusesTwoTheSame();
        refusesCrossingsThatAreNotThere();
        refusesOtherLengths();
        refusesOtherCrossings();
        refusesTwoEndsAtOneCrossing();
        refusesWithoutAnUpperEdge();
        Due.finish();
    }

    private static String call(int x, int y, int z) {
        return "slide(" + x + ", " + y + ", " + z + ")";
    }

    private static void refusesInAnyOrder(Setting setting, int x, int y, int z) {
        int[] three = {x, y, z};
        for (int[] order : ORDERS) {
            int a = three[order[0]];
            int b = three[order[1]];
            int c = three[order[2]];
            setting.refuses(call(a, b, c), link -> link.slide(a, b, c));
        }
    }

    // "(Of several the one with the least end of x is meant.)"
    private static void slidesTheLeastEndOfX() {
        // Both outer faces have three ends and could slide: the right one has the end 0 of each crossing
        // that is positive and 1 of each that is not, the left one 2 and 3.
        int[] positive = {1, -1};
        int[][] up = {{5, 5, 2, 4, 1}, {1, 1, 4, 6, 1}, {3, 3, 6, 2, 1}};
        int[][] down = {{4, 5, 5, 2, -1}, {6, 1, 1, 4, -1}, {2, 3, 3, 6, -1}};
        for (int a : positive) {
            for (int b : positive) {
                for (int c : positive) {
                    if (a == b && b == c) {
                        continue;
                    }
                    int[][] want = {a > 0 ? up[0] : down[0], b > 0 ? up[1] : down[1], c > 0 ? up[2] : down[2]};
                    for (int[] order : ORDERS) {
                        LinkDiagram link = Due.braid(2, a, b, c);
                        Due.yes("slide", link.slide(order[0], order[1], order[2]));
                        Setting.isDiagram("slide of " + a + b + c + ", ", link, want, 0);
                        Due.first(link, 0, 1);
                    }
                }
            }
        }
    }

    /** The same, with the three crossings at other places, their edges the greatest. */
    private static void slidesTheLeastEndAmongOthers() {
        int[][] crossings = Setting.loops(8, 1);
        crossings[7] = new int[] {27, 28, 30, 29, -1};
        crossings[2] = new int[] {30, 32, 31, 29, 1};
        crossings[5] = new int[] {32, 28, 27, 31, 1};
        int[][] want = crossings.clone();
        want[7] = new int[] {30, 31, 31, 28, -1};
        want[2] = new int[] {27, 27, 30, 32, 1};
        want[5] = new int[] {29, 29, 32, 28, 1};
        int[] places = {7, 2, 5};
        for (int[] order : ORDERS) {
            LinkDiagram link = Setting.taken(3, crossings);
            Due.yes("slide", link.slide(places[order[0]], places[order[1]], places[order[2]]));
            Setting.isDiagram("slide, ", link, want, 3);
        }
    }

    // "false, refused, when two of x, y, z are the same"
    private static void refusesTwoTheSame() {
        Setting[] settings = {
            new Setting("slides", Setting.read(Due.braid(3, 1, 2, 1)), 0).word(1),
            new Setting("both slide", Setting.read(Due.braid(2, -1, 1, 1)), 1).word(2),
            Setting.FULL, Setting.FRESH};
        for (Setting setting : settings) {
            for (int x = -1; x <= 3; x++) {
                for (int y = -1; y <= 3; y++) {
                    int one = x;
                    int two = y;
                    setting.refuses(call(x, x, y), link -> link.slide(one, one, two));
                    setting.refuses(call(x, y, x), link -> link.slide(one, two, one));
                    setting.refuses(call(y, x, x), link -> link.slide(two, one, one));
                }
            }
        }
    }

    // "one is not there"
    private static void refusesCrossingsThatAreNotThere() {
        Setting three = new Setting("slides", Setting.read(Due.braid(3, 1, 2, 1)), 0)
            .draft(0, Setting.loops(5, 1), new int[0][]).word(1, -2);
        for (int stray : new int[] {-1, 3, 4, 7, 8, 9, Integer.MIN_VALUE, Integer.MAX_VALUE}) {
            for (int[] order : ORDERS) {
                int a = order[0];
                int b = order[1];
                three.refuses(call(stray, a, b), link -> link.slide(stray, a, b));
                three.refuses(call(a, stray, b), link -> link.slide(a, stray, b));
                three.refuses(call(a, b, stray), link -> link.slide(a, b, stray));
            }
        }
        for (int[] order : ORDERS) {
            Due.yes("slide", three.build().slide(order[0], order[1], order[2]));
        }
        refusesInAnyOrder(Setting.FRESH, 0, 1, 2);
        // There once, but no more; and the greatest that there can be.
        LinkDiagram link = Due.braid(3, 2, 1, 2);
        Due.yes("untwist(1)", link.untwist(1));
        Due.no("slide(0, 1, 2)", link.slide(0, 1, 2));
        Due.counts(link, 2, 0, 2, 2, 4, 1);
        LinkDiagram eight = Due.braid(3, 1, 1, 1, 1, 1, 1, 2, 1);
        Due.no("slide(5, 6, 8)", eight.slide(5, 6, 8));
        Due.yes("slide(7, 6, 5)", eight.slide(7, 6, 5));
        Due.counts(eight, 8, 0, 1, 8, 10, 1);
    }

    // "or there is no such face": "a face has exactly three ends"
    private static void refusesOtherLengths() {
        // Faces with two and four ends, with edges that are upper at both their ends.
        Setting four = new Setting("four", Setting.read(Due.braid(2, 1, 1, -1, -1)), 0).word(3);
        for (int x = 0; x < 4; x++) {
            refusesInAnyOrder(four, x, (x + 1) % 4, (x + 2) % 4);
        }
        Setting rings = new Setting("rings", Setting.read(Due.braid(4, 1, -1, 3, -3)), 0);
        refusesInAnyOrder(rings, 0, 1, 2);
        refusesInAnyOrder(rings, 1, 2, 3);
    }

    // "or there is no such face": "one at each of the crossings x, y, z"
    private static void refusesOtherCrossings() {
        // Of these five crossings 1, 2 and 3 alone have such a face together; 0, 2 and 4 have one whose
        // edges are upper at one end each.
        Setting five = new Setting("five", Setting.read(Due.braid(4, -3, 1, 2, 1, -3)), 0).word(-1);
        for (int x = 0; x < 5; x++) {
            for (int y = 0; y < 5; y++) {
                for (int z = 0; z < 5; z++) {
                    int a = x;
                    int b = y;
                    int c = z;
                    boolean those = a * b * c == 6 && a + b + c == 6;
                    if (!those) {
                        five.refuses(call(a, b, c), link -> link.slide(a, b, c));
                    } else {
                        LinkDiagram link = five.build();
                        Due.yes(call(a, b, c), link.slide(a, b, c));
                        Setting.isDiagram("slide, ", link, new int[][] {
                            {3, 4, 6, 5, -1}, {7, 10, 2, 8, 1}, {9, 8, 1, 1, 1}, {5, 7, 9, 2, 1},
                            {10, 6, 4, 3, -1}}, 0);
                    }
                }
            }
        }
    }

    /** The same: three ends at two crossings, one of them twice. */
    private static void refusesTwoEndsAtOneCrossing() {
        for (int a = -1; a <= 1; a += 2) {
            for (int b = -1; b <= 1; b += 2) {
                Setting chain = new Setting("chain", Setting.read(Due.braid(3, a, 2 * b)), 0)
                    .draft(0, Setting.loops(1, 1), new int[0][]);
                refusesInAnyOrder(chain, 0, 0, 1);
                refusesInAnyOrder(chain, 1, 1, 0);
                refusesInAnyOrder(chain, 0, 1, 2);
                Setting more = new Setting("chain and loop", Setting.joined(Setting.read(Due.braid(3, a, 2 * b)),
                    new int[] {11, 11, 12, 12, 1}), 1);
                refusesInAnyOrder(more, 0, 1, 2);
            }
        }
    }

    // "or there is no such face": "of its three edges at least one is at upper ends at both its ends"
    private static void refusesWithoutAnUpperEdge() {
        int[] letters = {1, -1};
        for (int a : letters) {
            for (int b : letters) {
                for (int c : letters) {
                    // Two letters more, so that the three crossings have one face alone together.
                    LinkDiagram woven = Due.braid(4, a, 2 * b, c, 3, 3);
                    Setting setting = new Setting("signs " + a + b + c, Setting.read(woven), 0).word(1);
                    if (a != b && b != c) {
                        refusesInAnyOrder(setting, 0, 1, 2);
                        continue;
                    }
                    for (int[] order : ORDERS) {
                        LinkDiagram link = setting.build();
                        Due.yes("slide", link.slide(order[0], order[1], order[2]));
                        Due.counts(link, 5, 0, woven.count(2), woven.count(3), 7, 1);
                        Due.no("end(0, 0) as it was", link.end(0, 0) == woven.end(0, 0));
                    }
                }
            }
        }
        // Knots in which the strands are above and below in turn.
        refusesInAnyOrder(Setting.SOME, 0, 1, 2);
        refusesInAnyOrder(new Setting("mirror", Setting.read(Due.braid(2, -1, -1, -1)), 0), 0, 1, 2);
        for (int x = 0; x < 8; x++) {
            for (int y = 0; y < 8; y++) {
                for (int z = 0; z < 8; z++) {
                    int a = x;
                    int b = y;
                    int c = z;
                    LinkDiagram link = Setting.FULL.build();
                    Due.no(call(a, b, c), link.slide(a, b, c));
                    Setting.FULL.keptParts(call(a, b, c), link);
                }
            }
        }
    }
}
