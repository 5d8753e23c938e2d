/** The sentences of the promises 5 and 6 that name a boundary case, each in its own method. */
public final class BraidBoundaryTest {
    public static void main(String[] args) {
        letterRefusesOthers();
        letterRefusesTheNinth();
        braidEmptiesTheWord();
        braidRefusesStrands();
        braidRefusesLetters();
        braidRefusesALetterAtAnyPlace();
        newEdges();
        circleWhereTheEdgeIsThePlace();
        otherwiseTheEdgeBecomesThePlace();
        Due.finish();
    }

    // Promise 5: "false, refused, when g is not 1 .. 3 or -1 .. -3"
    private static void letterRefusesOthers() {
        int[] wrong = {0, 4, -4, 5, -5, Integer.MIN_VALUE, Integer.MIN_VALUE + 1, Integer.MAX_VALUE};
        for (Setting setting : Setting.ALL) {
            for (int g : wrong) {
                setting.refuses("letter(" + g + ")", link -> link.letter(g));
            }
        }
        int[][] want = {{3, 4, 4, 3, -1}, {2, 3, 3, 2, -1}, {1, 2, 2, 1, -1}, null, {2, 2, 1, 1, 1}, {3, 3, 2, 2, 1},
            {4, 4, 3, 3, 1}};
        for (int g = -3; g <= 3; g++) {
            if (g != 0) {
                LinkDiagram link = Due.braid(4, g);
                Setting.isDiagram("letter(" + g + "), braid(4), ", link, new int[][] {want[g + 3]}, 2);
            }
        }
    }

    // Promise 5: "or the word has 8."
    private static void letterRefusesTheNinth() {
        for (int g = -3; g <= 3; g++) {
            int letter = g;
            Setting.FULL.refuses("letter(" + g + ")", link -> link.letter(letter));
            if (g == 0) {
                continue;
            }
            for (int many = 0; many <= 9; many++) {
                LinkDiagram link = new LinkDiagram();
                for (int i = 0; i < many; i++) {
                    Due.same("letter, with " + i, link.letter(g) ? 1 : 0, i < 8 ? 1 : 0);
                }
                Due.counts(link, 0, 1);
                Due.yes("braid(4)", link.braid(4));
                Due.same("count(0)", link.count(0), Math.min(many, 8));
                Due.same("count(3)", link.count(3), g > 0 ? Math.min(many, 8) : -Math.min(many, 8));
            }
        }
    }

    // Promise 6: "The closed braid of n strands becomes the diagram, and the word is empty: true; (what
    // the diagram was is gone;)"
    private static void braidEmptiesTheWord() {
        for (Setting setting : Setting.ALL) {
            LinkDiagram link = setting.build();
            Due.yes("braid(4)", link.braid(4));
            Due.yes("braid(1), as the word is empty", link.braid(1));
            Due.counts(link, 0, 1, 1, 0, 0, 0);
            Due.same("end(0, 0)", link.end(0, 0), LinkDiagram.NONE);
            for (int i = 0; i < 8; i++) {
                Due.yes("letter, as the word is empty", link.letter(1));
            }
            Due.no("letter, the ninth", link.letter(1));
        }
    }

    // Promise 6: "false, refused, when n is not 1 .. 4"
    private static void braidRefusesStrands() {
        for (Setting setting : Setting.ALL) {
            for (int n : new int[] {0, 5, -1, -2, 6, Integer.MIN_VALUE, Integer.MAX_VALUE}) {
                setting.refuses("braid(" + n + ")", link -> link.braid(n));
            }
        }
        for (int n = 1; n <= 4; n++) {
            Due.counts(Due.braid(n), 0, n, n, 0, 0, 0);
        }
    }

    // Promise 6: "or a letter g or -g of the word is not below n."
    private static void braidRefusesLetters() {
        for (int g = -3; g <= 3; g++) {
            if (g == 0) {
                continue;
            }
            int size = Math.abs(g);
            Setting setting = new Setting("letter " + g, Setting.TREFOIL, 1).word(g)
                .draft(0, new int[][] {{7, 7, 8, 8, 1}}, new int[0][]);
            for (int n = 1; n <= 4; n++) {
                int strands = n;
                if (n <= size) {
                    setting.refuses("braid(" + n + ")", link -> link.braid(strands));
                } else {
                    LinkDiagram link = setting.build();
                    Due.yes("braid(" + n + ") with " + g, link.braid(n));
                    Due.counts(link, 1, n - 2, n - 1, g > 0 ? 1 : -1, 3, 1);
                }
            }
        }
    }

    /** The same, with the one letter that is not below n at each of eight places. */
    private static void braidRefusesALetterAtAnyPlace() {
        for (int at = 0; at < 8; at++) {
            for (int size = 2; size <= 3; size++) {
                for (int sign = -1; sign <= 1; sign += 2) {
                    int[] word = {1, -1, 1, -1, 1, -1, 1, -1};
                    word[at] = sign * size;
                    int n = size;
                    Setting setting = new Setting("letter at " + at, Setting.TREFOIL, 0).word(word);
                    setting.refuses("braid(" + n + ")", link -> link.braid(n));
                    LinkDiagram link = setting.build();
                    Due.yes("braid(" + (n + 1) + ")", link.braid(n + 1));
                    Due.same("count(0)", link.count(0), 8);
                }
            }
        }
    }

    // Promise 6: "u and v two new edges, n + 1 and n + 2 for the first letter, the next two for the next
    // one, and so on"
    private static void newEdges() {
        // Two strands begin with 3 and 4, three with 4 and 5, four with 5 and 6.
        for (int n = 2; n <= 4; n++) {
            LinkDiagram link = Due.braid(n, 1, 1, 1, 1, 1, 1, 1, 1);
            Due.crossing(link, 0, 2, n + 2, n + 1, 1, 1);
            for (int x = 1; x < 7; x++) {
                int u = n + 1 + 2 * x;
                Due.crossing(link, x, u - 1, u + 1, u, u - 2, 1);
            }
            Due.crossing(link, 7, n + 14, 2, 1, n + 13, 1);
        }
    }

    // Promise 6: "In the end, for each place p: when its edge is p, there is a circle"
    private static void circleWhereTheEdgeIsThePlace() {
        for (int n = 1; n <= 4; n++) {
            Setting.isDiagram("braid(" + n + "), ", Due.braid(n), new int[0][], n);
        }
        // Circles at the places 3, 4; 1, 4; 1, 2; then at one place, and at none.
        Setting.isDiagram("braid(4), ", Due.braid(4, 1), new int[][] {{2, 2, 1, 1, 1}}, 2);
        Setting.isDiagram("braid(4), ", Due.braid(4, -2), new int[][] {{2, 3, 3, 2, -1}}, 2);
        Setting.isDiagram("braid(4), ", Due.braid(4, 3), new int[][] {{4, 4, 3, 3, 1}}, 2);
        Setting.isDiagram("braid(3), ", Due.braid(3, 2), new int[][] {{3, 3, 2, 2, 1}}, 1);
        Due.counts(Due.braid(4, 1, 2), 2, 1, 2, 2, 4, 1);
        Due.counts(Due.braid(4, 3, -2), 2, 1, 2, 0, 4, 1);
        Due.counts(Due.braid(4, 1, 3), 2, 0, 2, 2, 6, 2);
        Due.counts(Due.braid(2, 1), 1, 0, 1, 1, 3, 1);
    }

    // Promise 6: "otherwise its edge becomes p everywhere."
    private static void otherwiseTheEdgeBecomesThePlace() {
        // The last edge of each place is borne by the one end where it goes out.
        Setting.isDiagram("braid(4), ", Due.braid(4, 1, 2, 3), new int[][] {
            {2, 6, 1, 1, 1}, {3, 8, 2, 6, 1}, {4, 4, 3, 8, 1}}, 0);
        Setting.isDiagram("braid(4), ", Due.braid(4, -3, -2, -1), new int[][] {
            {3, 4, 4, 5, -1}, {2, 5, 3, 7, -1}, {1, 7, 2, 1, -1}}, 0);
        // So that each edge fits, and can be drawn again.
        int[][] words = {{1}, {-1}, {1, 1}, {2, -1}, {3, 1, 2}, {-3, 2, -1, 3}, {1, 2, 3, 1, 2, 3, 1, 2}};
        for (int[] word : words) {
            LinkDiagram link = Due.braid(4, word);
            int[][] crossings = Setting.read(link);
            for (int[] crossing : crossings) {
                for (int k = 0; k < 4; k++) {
                    boolean last = crossing[k] > 4 && occurrences(crossings, crossing[k]) != 2;
                    Due.no("an edge that is borne by one end", last);
                }
            }
            LinkDiagram again = Setting.taken(link.count(1), crossings);
            for (int k = 0; k <= 5; k++) {
                Due.same("count(" + k + ")", again.count(k), link.count(k));
            }
        }
    }

    private static int occurrences(int[][] crossings, int edge) {
        int found = 0;
        for (int[] crossing : crossings) {
            for (int k = 0; k < 4; k++) {
                found += crossing[k] == edge ? 1 : 0;
            }
        }
        return found;
    }
}
