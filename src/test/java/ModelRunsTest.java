import java.util.List;
import java.util.Map;

/** Promises 1 to 15: long runs of calls, every answer compared with the model's. */
public final class ModelRunsTest {
    private static final int RUNS = 4000;
    // The document promises nothing beyond 512 calls; what is left is for the last comparison.
    private static final int CALLS = 250;
    private static final int[] STRAYS = {
        Integer.MIN_VALUE, Integer.MIN_VALUE + 7, -1000, -33, -9, -5, -4, 4, 5, 8, 9, 32, 33, 1000,
        Integer.MAX_VALUE - 7, Integer.MAX_VALUE};

    // How often the calls that change something were accepted, so that no run is idle.
    private static final int[] done = new int[8];

    private final LinkDiagram link = new LinkDiagram();
    private final Model model = new Model();
    private final Dice dice;
    private final String run;
    private int calls = 0;

    private ModelRunsTest(int run) {
        this.run = "run " + run + ": ";
        dice = new Dice(run);
    }

    public static void main(String[] args) {
        for (int run = 0; run < RUNS; run++) {
            new ModelRunsTest(run).play();
        }
        String[] names = {"cross", "take", "braid", "twist", "untwist", "poke", "unpoke", "slide"};
        for (int i = 0; i < names.length; i++) {
            Due.yes(names[i] + " was accepted " + done[i] + " times", done[i] >= 1000);
        }
        Due.finish();
    }

    private void play() {
        while (calls < CALLS) {
            step();
            compareSomewhere();
        }
        compareState();
        comparePolynomials();
        Due.yes(run + "stays within 512 calls", calls <= 512);
    }

    private void step() {
        int kind = dice.below(100);
        if (kind < 2) {
            shadow();
        } else if (kind < 5) {
            draftAtRandom();
        } else if (kind < 6) {
            take(dice.from(-1, 5));
        } else if (kind < 8) {
            weave();
        } else if (kind < 24) {
            twist();
        } else if (kind < 34) {
            untwist();
        } else if (kind < 58) {
            poke();
        } else if (kind < 74) {
            unpoke();
        } else {
            slide();
        }
    }

    /** Drafts the diagram with its edges numbered anew, sometimes with a flaw, and takes it. */
    private void shadow() {
        int left = 1;
        for (int i = 0; i < 8 && left > 0; i++) {
            left = drop();
        }
        int flawed = dice.coin() ? -1 : dice.below(8);
        int factor = 2 * dice.below(16) + 1;
        int shift = dice.below(32);
        for (int x = 0; x < model.count(0); x++) {
            int flaw = x == flawed ? dice.from(1, 3) : 0;
            boolean turned = flaw == 1;
            int a = flaw == 3 ? dice.from(1, 16) : renamed(model.end(x, 0), factor, shift);
            int b = renamed(model.end(x, turned ? 3 : 1), factor, shift);
            int c = renamed(model.end(x, 2), factor, shift);
            int d = renamed(model.end(x, turned ? 1 : 3), factor, shift);
            boolean positive = (model.end(x, 4) == 1) == (flaw != 2);
            cross(a, b, c, d, turned ? !positive : positive);
        }
        take(dice.from(0, 4));
    }

    /** As the factor is odd, different edges stay different. */
    private static int renamed(int edge, int factor, int shift) {
        return (edge * factor + shift) % 32 + 1;
    }

    private void draftAtRandom() {
        int a = dice.from(1, 3);
        int b = dice.from(1, 3);
        switch (dice.below(5)) {
            case 0 -> cross(a + 20, a + 20, b + 24, b + 24, true);
            case 1 -> cross(a + 20, b + 24, b + 24, a + 20, false);
            case 2 -> cross(a + 28, b + 24, b + 24, a + 28, dice.coin());
            case 3 -> cross(stray(32), stray(32), stray(32), stray(32), dice.coin());
            default -> drop();
        }
    }

    private int drop() {
        int left = link.drop();
        same("drop()", left, model.drop());
        return left;
    }

    private void weave() {
        int n = dice.from(2, 4);
        int most = dice.from(0, 9);
        for (int i = 0; i < most; i++) {
            int g = dice.below(20) == 0 ? stray(4) : (dice.coin() ? 1 : -1) * dice.from(1, n - 1);
            same("letter(" + g + ")", bit(link.letter(g)), bit(model.letter(g)));
        }
        int strands = dice.below(4) == 0 ? stray(5) : n;
        accept(2, "braid(" + strands + ")", link.braid(strands), model.braid(strands));
    }

    private void cross(int a, int b, int c, int d, boolean positive) {
        String call = "cross(" + a + ", " + b + ", " + c + ", " + d + ", " + positive + ")";
        accept(0, call, link.cross(a, b, c, d, positive), model.cross(a, b, c, d, positive));
    }

    private void take(int circles) {
        int got = link.take(circles);
        same("take(" + circles + ")", got, model.take(circles));
        done[1] += got == 0 ? 1 : 0;
    }

    private void twist() {
        int edge = someEdge();
        int kind = dice.below(10) == 0 ? stray(5) : dice.below(4);
        if (dice.below(3) > 0 && model.count(0) > 5) {
            return;
        }
        accept(3, "twist(" + edge + ", " + kind + ")", link.twist(edge, kind), model.twist(edge, kind));
    }

    private void untwist() {
        int x = stray(8);
        accept(4, "untwist(" + x + ")", link.untwist(x), model.untwist(x));
    }

    private void poke() {
        int e = someEdge();
        boolean right = dice.coin();
        int f = someEdge();
        boolean fRight = dice.coin();
        List<int[]> face = someFace(0);
        if (face != null && dice.below(4) > 0) {
            int[] one = face.get(dice.below(face.size()));
            int[] two = face.get(dice.below(face.size()));
            e = one[1];
            right = one[2] == 1;
            f = two[1];
            fRight = two[2] == 1;
        }
        String call = "poke(" + e + ", " + right + ", " + f + ", " + fRight + ")";
        accept(5, call, link.poke(e, right, f, fRight), model.poke(e, right, f, fRight));
    }

    private void unpoke() {
        int[] at = someCrossings(2);
        String call = "unpoke(" + at[0] + ", " + at[1] + ")";
        accept(6, call, link.unpoke(at[0], at[1]), model.unpoke(at[0], at[1]));
    }

    private void slide() {
        int[] at = someCrossings(3);
        String call = "slide(" + at[0] + ", " + at[1] + ", " + at[2] + ")";
        accept(7, call, link.slide(at[0], at[1], at[2]), model.slide(at[0], at[1], at[2]));
    }

    /** Mostly the crossings of a face, from any of them on and in any turn. */
    private int[] someCrossings(int length) {
        int[] at = new int[length];
        List<int[]> face = dice.below(5) == 0 ? null : someFace(length);
        int from = dice.below(length);
        int by = dice.coin() ? 1 : length - 1;
        for (int i = 0; i < length; i++) {
            at[i] = face == null ? stray(8) : face.get((from + by * i) % length)[0];
        }
        return at;
    }

    /** One of the faces of a length, or of any for 0; null if there is none. */
    private List<int[]> someFace(int length) {
        List<List<int[]>> faces = model.faceEnds();
        faces.removeIf(face -> length != 0 && face.size() != length);
        return faces.isEmpty() ? null : faces.get(dice.below(faces.size()));
    }

    private void compareSomewhere() {
        compareCount(dice.below(6));
        compareEnd(dice.below(8), dice.below(5));
    }

    private void compareState() {
        for (int k = -1; k <= 6; k++) {
            compareCount(k);
        }
        for (int x = 0; x <= model.count(0); x++) {
            for (int k = 0; k <= 4; k++) {
                compareEnd(x, k);
            }
        }
        compareEnd(-1, 0);
        compareEnd(0, -1);
        compareEnd(0, 5);
    }

    private void compareCount(int k) {
        same("count(" + k + ")", link.count(k), model.count(k));
    }

    private void compareEnd(int x, int k) {
        same("end(" + x + ", " + k + ")", link.end(x, k), model.end(x, k));
    }

    private void comparePolynomials() {
        Map<Integer, Long> first = model.first();
        // All exponents have the parity of the components less one, but for one odd sample.
        int offset = (model.count(2) + 1) % 2;
        for (int e = -60 + offset; e <= 60; e += 2) {
            compareFirst(first, e);
        }
        compareFirst(first, 1 - offset);
        List<Long> second = model.second();
        for (int e = -1; e <= 9; e++) {
            compareSecond(second, e);
        }
        for (int i = 0; i < 4; i++) {
            compareFirst(first, STRAYS[dice.below(STRAYS.length)]);
            compareSecond(second, STRAYS[dice.below(STRAYS.length)]);
        }
    }

    private void compareFirst(Map<Integer, Long> first, int e) {
        same("first(" + e + ")", link.first(e), first.getOrDefault(e, 0L));
    }

    private void compareSecond(List<Long> second, int e) {
        same("second(" + e + ")", link.second(e), e >= 0 && e < second.size() ? second.get(e) : 0);
    }

    private int someEdge() {
        int size = model.count(0);
        return size == 0 || dice.below(8) == 0 ? stray(32) : model.end(dice.below(size), dice.below(4));
    }

    private int stray(int most) {
        return dice.below(25) == 0 ? STRAYS[dice.below(STRAYS.length)] : dice.below(most + 1);
    }

    private static int bit(boolean answer) {
        return answer ? 1 : 0;
    }

    private void accept(int name, String call, boolean got, boolean want) {
        same(call, bit(got), bit(want));
        done[name] += bit(got);
    }

    private void same(String call, long got, long want) {
        calls++;
        Due.same(run + call, got, want);
    }
}
