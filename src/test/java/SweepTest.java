import java.util.function.Predicate;

/**
 * Every move with every argument near the bounds, from settings of many kinds: the answer is the
 * model's, a call that is refused changes nothing, and one that is not makes the model's diagram.
 */
public final class SweepTest {
    private final Setting setting;

    private SweepTest(Setting setting) {
        this.setting = setting;
    }

    public static void main(String[] args) {
        for (Setting setting : Setting.ALL) {
            new SweepTest(setting).sweep();
        }
        int[][] words = {{1, -1}, {1, 2}, {1, -2}, {-1, 1, 1}, {1, 2, 1}, {1, -2, 1}, {1, 2, -1}, {2, 1, -1, 2},
            {1, -1, 3, -3}, {1, 2, 1, 3}, {3, -1, 2, -1, -3}, {1, 2, -2, -1, 3, 3}};
        for (int[] word : words) {
            LinkDiagram woven = Due.braid(4, word);
            Setting setting = new Setting("braid", Setting.read(woven), woven.count(1))
                .draft(0, Setting.loops(2, 25), new int[0][]).word(3, -1);
            new SweepTest(setting).sweep();
        }
        Due.finish();
    }

    private void sweep() {
        int high = setting.build().count(0);
        for (int x = -1; x <= high; x++) {
            int a = x;
            same("untwist(" + a + ")", link -> link.untwist(a), model -> model.untwist(a));
            for (int y = -1; y <= high; y++) {
                int b = y;
                same("unpoke(" + a + ", " + b + ")", link -> link.unpoke(a, b), model -> model.unpoke(a, b));
                for (int z = -1; z <= high; z++) {
                    int c = z;
                    same("slide(" + a + ", " + b + ", " + c + ")",
                        link -> link.slide(a, b, c), model -> model.slide(a, b, c));
                }
            }
        }
        for (int edge = -1; edge <= 33; edge++) {
            sweepEdge(edge);
        }
        for (int n = -1; n <= 6; n++) {
            int strands = n;
            same("braid(" + n + ")", link -> link.braid(strands), model -> model.braid(strands));
            same("take(" + n + ")", link -> link.take(strands) == 0, model -> model.take(strands) == 0);
        }
    }

    private void sweepEdge(int edge) {
        for (int kind = -1; kind <= 4; kind++) {
            int k = kind;
            same("twist(" + edge + ", " + k + ")", link -> link.twist(edge, k), model -> model.twist(edge, k));
        }
        for (int other = -1; other <= 33; other++) {
            int f = other;
            for (int sides = 0; sides < 4; sides++) {
                boolean right = sides % 2 == 1;
                boolean fRight = sides / 2 == 1;
                same("poke(" + edge + ", " + right + ", " + f + ", " + fRight + ")",
                    link -> link.poke(edge, right, f, fRight), model -> model.poke(edge, right, f, fRight));
            }
        }
    }

    private void same(String call, Predicate<LinkDiagram> ofLink, Predicate<Model> ofModel) {
        LinkDiagram link = setting.build();
        Model model = setting.model();
        boolean want = ofModel.test(model);
        Due.same(setting.name + ": " + call, ofLink.test(link) ? 1 : 0, want ? 1 : 0);
        if (!want) {
            setting.keptParts(call, link);
            return;
        }
        for (int k = 0; k <= 5; k++) {
            Due.same(setting.name + ": " + call + ", count(" + k + ")", link.count(k), model.count(k));
        }
        for (int x = 0; x <= 8; x++) {
            for (int k = 0; k <= 4; k++) {
                Due.same(setting.name + ": " + call + ", end(" + x + ", " + k + ")", link.end(x, k), model.end(x, k));
            }
        }
    }
}
