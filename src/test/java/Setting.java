import java.util.ArrayList;
import java.util.List;
import java.util.function.Predicate;
import java.util.function.ToLongFunction;

/**
 * A diagram, a draft and a word that are known. It makes objects that have them, and sees whether
 * an object still has all three after a call that was refused. A crossing is told by its four
 * edges and its sign.
 */
final class Setting {
    static final int[] FAR = {Integer.MIN_VALUE, Integer.MIN_VALUE + 1, -1000, 1000, Integer.MAX_VALUE};

    static final int[][] TREFOIL = {{2, 4, 3, 1, 1}, {4, 6, 5, 3, 1}, {6, 2, 1, 5, 1}};
    /** Nothing in the draft, one circle in the diagram. */
    static final Setting FRESH = new Setting("new object", new int[0][], 1);
    /** A draft that doesn't fit: the other crossing of two rings is missing. */
    static final Setting SOME = new Setting("trefoil", TREFOIL, 2)
        .draft(0, new int[][] {{2, 4, 3, 1, 1}}, new int[][] {{4, 2, 1, 3, 1}}).word(1, -3);
    /** A draft that fits but is not flat: the last crossing of a trefoil is turned over. */
    static final Setting UNEVEN = new Setting("uneven draft", new int[][] {{1, 2, 2, 1, -1}}, 0)
        .draft(1, new int[][] {{2, 4, 3, 1, 1}, {4, 6, 5, 3, 1}, {6, 1, 2, 5, 1}}, new int[][] {{6, 2, 1, 5, 1}})
        .word(-2);
    /** One crossing short of full everywhere. */
    static final Setting SEVEN = new Setting("seven", read(Due.braid(2, 1, 1, 1, 1, 1, 1, 1)), 1)
        .draft(0, loops(7, 3), new int[][] {{31, 31, 32, 32, 1}}).word(3, 2, 1, -1, -2, -3, 1);
    /** Nothing more goes in anywhere. */
    static final Setting FULL = new Setting("full", read(Due.braid(3, 1, -2, 1, -2, 1, -2, 1, -2)), 0)
        .draft(0, loops(8, 5), new int[0][]).word(1, -2, 3, -3, 2, -1, 1, 1);
    /** Eight pieces, with the greatest edges, and as many circles as can be taken. */
    static final Setting LOOPS = new Setting("loops", loops(8, 17), 4)
        .draft(0, new int[][] {{32, 32, 1, 1, 1}}, new int[0][]);

    static final Setting[] ALL = {FRESH, SOME, UNEVEN, SEVEN, FULL, LOOPS};

    final String name;
    private final int[][] diagram;
    private final int circles;
    private int[][] draft = {};
    private int drops = 0;
    private int[][] rest = {};
    private int[] word = {};

    Setting(String name, int[][] diagram, int circles) {
        this.name = name;
        this.diagram = diagram;
        this.circles = circles;
    }

    /** With a draft that can be taken when so many are dropped and the rest is appended. */
    Setting draft(int drops, int[][] draft, int[][] rest) {
        this.drops = drops;
        this.draft = draft;
        this.rest = rest;
        return this;
    }

    Setting word(int... word) {
        this.word = word;
        return this;
    }

    /** Crossings that are pieces of their own, with edges from one on. */
    static int[][] loops(int many, int from) {
        int[][] crossings = new int[many][];
        for (int i = 0; i < many; i++) {
            int a = from + 2 * i;
            crossings[i] = i % 2 == 0 ? new int[] {a, a, a + 1, a + 1, 1} : new int[] {a, a + 1, a + 1, a, -1};
        }
        return crossings;
    }

    static int[][] joined(int[][] crossings, int[]... more) {
        List<int[]> all = new ArrayList<>(List.of(crossings));
        all.addAll(List.of(more));
        return all.toArray(new int[0][]);
    }

    static int[][] read(LinkDiagram link) {
        int[][] crossings = new int[link.count(0)][5];
        for (int x = 0; x < crossings.length; x++) {
            for (int k = 0; k <= 4; k++) {
                crossings[x][k] = link.end(x, k);
            }
        }
        return crossings;
    }

    static void draw(LinkDiagram link, int[]... crossings) {
        for (int[] c : crossings) {
            Due.yes("cross", link.cross(c[0], c[1], c[2], c[3], c[4] == 1));
        }
    }

    /** An object with these crossings and circles. */
    static LinkDiagram taken(int circles, int[]... crossings) {
        LinkDiagram link = new LinkDiagram();
        draw(link, crossings);
        Due.same("take(" + circles + ")", link.take(circles), 0);
        return link;
    }

    LinkDiagram build() {
        LinkDiagram link = this == FRESH ? new LinkDiagram() : taken(circles, diagram);
        draw(link, draft);
        for (int g : word) {
            Due.yes("letter(" + g + ")", link.letter(g));
        }
        return link;
    }

    /** The same of the model. */
    Model model() {
        Model model = new Model();
        if (this != FRESH) {
            drawn(model, diagram);
            Due.same("take of the model", model.take(circles), 0);
        }
        drawn(model, draft);
        for (int g : word) {
            Due.yes("letter of the model", model.letter(g));
        }
        return model;
    }

    private static void drawn(Model model, int[][] crossings) {
        for (int[] c : crossings) {
            Due.yes("cross of the model", model.cross(c[0], c[1], c[2], c[3], c[4] == 1));
        }
    }

    void refuses(String call, Predicate<LinkDiagram> doing) {
        LinkDiagram link = build();
        Due.no(name + ": " + call, doing.test(link));
        kept(call, link);
    }

    /** Of a call that answers a number and has to change nothing. */
    void answers(String call, long want, ToLongFunction<LinkDiagram> doing) {
        LinkDiagram link = build();
        Due.same(name + ": " + call, doing.applyAsLong(link), want);
        kept(call, link);
    }

    /** Sees that the object has all that it was built with; it is used up by this. */
    void kept(String call, LinkDiagram link) {
        String after = name + ", after " + call + ": ";
        keptPolynomials(after, link);
        keptParts(call, link);
    }

    /** The same without the polynomials, for calls by the thousand. */
    void keptParts(String call, LinkDiagram link) {
        String after = name + ", after " + call + ": ";
        isDiagram(after, link, diagram, circles);
        keptWord(after, link);
        keptDraft(after, link);
    }

    static void isDiagram(String after, LinkDiagram link, int[][] crossings, int circles) {
        Due.same(after + "count(0)", link.count(0), crossings.length);
        Due.same(after + "count(1)", link.count(1), circles);
        for (int x = 0; x < crossings.length; x++) {
            for (int k = 0; k <= 4; k++) {
                Due.same(after + "end(" + x + ", " + k + ")", link.end(x, k), crossings[x][k]);
            }
        }
    }

    private void keptPolynomials(String after, LinkDiagram link) {
        LinkDiagram twin = build();
        for (int e = -28; e <= 28; e++) {
            Due.same(after + "first(" + e + ")", link.first(e), twin.first(e));
        }
        for (int e = 0; e <= 8; e++) {
            Due.same(after + "second(" + e + ")", link.second(e), twin.second(e));
        }
    }

    private void keptWord(String after, LinkDiagram link) {
        LinkDiagram woven = Due.braid(4, word);
        Due.yes(after + "braid(4)", link.braid(4));
        isDiagram(after + "braid(4), ", link, read(woven), woven.count(1));
    }

    private void keptDraft(String after, LinkDiagram link) {
        List<int[]> whole = new ArrayList<>(List.of(draft));
        for (int i = 0; i < drops; i++) {
            whole.remove(whole.size() - 1);
            Due.same(after + "drop()", link.drop(), whole.size());
        }
        for (int[] c : rest) {
            whole.add(c);
            Due.yes(after + "cross", link.cross(c[0], c[1], c[2], c[3], c[4] == 1));
        }
        if (whole.isEmpty()) {
            Due.same(after + "take(0)", link.take(0), 1);
            Due.same(after + "drop()", link.drop(), 0);
            return;
        }
        Due.same(after + "take(0)", link.take(0), 0);
        isDiagram(after + "take(0), ", link, whole.toArray(new int[0][]), 0);
    }
}
