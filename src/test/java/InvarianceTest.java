/** Promises 9 to 15: the moves leave both polynomials, the components and flatness as they are. */
public final class InvarianceTest {
    private static final int RUNS = 3000;
    private static final int TRIES = 120;
    private static int moves = 0;

    public static void main(String[] args) {
        for (int run = 0; run < RUNS; run++) {
            play(run);
        }
        Due.yes(moves + " moves were made", moves > 5 * RUNS);
        Due.finish();
    }

    private static void play(int run) {
        Dice dice = new Dice(1000 + run);
        int n = dice.from(1, 4);
        int[] word = new int[n == 1 ? 0 : dice.from(0, 6)];
        for (int i = 0; i < word.length; i++) {
            word[i] = (dice.coin() ? 1 : -1) * dice.from(1, n - 1);
        }
        LinkDiagram before = Due.braid(n, word);
        LinkDiagram after = Due.braid(n, word);
        for (int i = 0; i < TRIES; i++) {
            moves += move(after, dice) ? 1 : 0;
        }
        compare("run " + run + ": ", before, after);
        flat("run " + run + ": ", after);
    }

    private static boolean move(LinkDiagram link, Dice dice) {
        switch (dice.below(12)) {
            case 0:
                return link.twist(dice.below(17), dice.below(4));
            case 1:
            case 2:
            case 3:
                return link.poke(dice.from(1, 16), dice.coin(), dice.from(1, 16), dice.coin());
            case 4:
            case 5:
                return link.untwist(dice.below(8));
            case 6:
            case 7:
                return link.unpoke(dice.below(8), dice.below(8));
            default:
                return slideSomewhere(link, dice);
        }
    }

    private static boolean slideSomewhere(LinkDiagram link, Dice dice) {
        boolean slid = false;
        for (int i = 0; i < 3 && !slid; i++) {
            slid = link.slide(dice.below(8), dice.below(8), dice.below(8));
        }
        return slid;
    }

    private static void compare(String run, LinkDiagram before, LinkDiagram after) {
        Due.same(run + "count(2)", after.count(2), before.count(2));
        int offset = (before.count(2) + 1) % 2;
        for (int e = -50 + offset; e <= 50; e += 2) {
            Due.same(run + "first(" + e + ")", after.first(e), before.first(e));
        }
        for (int e = 0; e <= 8; e++) {
            Due.same(run + "second(" + e + ")", after.second(e), before.second(e));
        }
    }

    /** What the moves have made is taken as a diagram. */
    private static void flat(String run, LinkDiagram link) {
        LinkDiagram copy = new LinkDiagram();
        int size = link.count(0);
        for (int x = 0; x < size; x++) {
            Due.yes(run + "cross", copy.cross(
                link.end(x, 0), link.end(x, 1), link.end(x, 2), link.end(x, 3), link.end(x, 4) == 1));
        }
        Due.same(run + "take", copy.take(link.count(1)), 0);
        Due.same(run + "count(4)", link.count(4), size + 2 * link.count(5));
        for (int k = 0; k <= 5; k++) {
            Due.same(run + "count(" + k + ")", copy.count(k), link.count(k));
        }
    }
}
