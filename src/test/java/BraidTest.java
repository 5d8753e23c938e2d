/** Promises 5 and 6. */
public final class BraidTest {
    public static void main(String[] args) {
        letterBounds();
        letterRefusesNinth();
        oneLetter();
        threeStrands();
        fourStrands();
        eightLetters();
        strandsWithoutLetters();
        braidBounds();
        letterNotBelow();
        formerDiagramIsGone();
        Due.finish();
    }

    private static void letterBounds() {
        LinkDiagram link = new LinkDiagram();
        for (int g : new int[] {0, 4, -4, 5, -5, 100, Integer.MIN_VALUE, Integer.MAX_VALUE}) {
            Due.no("letter(" + g + ")", link.letter(g));
        }
        for (int g : new int[] {1, 2, 3, -1, -2, -3}) {
            Due.yes("letter(" + g + ")", link.letter(g));
        }
        Due.counts(link, 0, 1);
        Due.yes("braid(4)", link.braid(4));
        Due.counts(link, 6, 0, 2, 0, 8, 1);
    }

    private static void letterRefusesNinth() {
        LinkDiagram link = new LinkDiagram();
        for (int i = 0; i < 8; i++) {
            Due.yes("letter(1)", link.letter(1));
        }
        Due.no("letter(1), the ninth", link.letter(1));
        Due.no("letter(0)", link.letter(0));
        Due.yes("braid(2)", link.braid(2));
        Due.counts(link, 8, 0, 2, 8, 10, 1);
        Due.yes("letter(-1)", link.letter(-1));
        Due.yes("braid(2)", link.braid(2));
        Due.counts(link, 1, 0, 1, -1, 3, 1);
    }

    private static void oneLetter() {
        LinkDiagram link = Due.braid(2, 1);
        Due.counts(link, 1, 0, 1, 1, 3, 1);
        Due.crossing(link, 0, 2, 2, 1, 1, 1);
        link = Due.braid(2, -1);
        Due.counts(link, 1, 0, 1, -1, 3, 1);
        Due.crossing(link, 0, 1, 2, 2, 1, -1);
    }

    private static void threeStrands() {
        LinkDiagram link = Due.braid(3, 1, -2);
        Due.counts(link, 2, 0, 1, 0, 4, 1);
        Due.crossing(link, 0, 2, 5, 1, 1, 1);
        Due.crossing(link, 1, 5, 3, 3, 2, -1);
        link = Due.braid(3, -2, 1, 2);
        Due.crossing(link, 0, 2, 3, 5, 4, -1);
        Due.crossing(link, 1, 4, 7, 1, 1, 1);
        Due.crossing(link, 2, 5, 3, 2, 7, 1);
    }

    private static void fourStrands() {
        LinkDiagram link = Due.braid(4, 3);
        Due.counts(link, 1, 2, 3, 1, 3, 1);
        Due.crossing(link, 0, 4, 4, 3, 3, 1);
        link = Due.braid(4, 1, -3);
        Due.counts(link, 2, 0, 2, 0, 6, 2);
        Due.crossing(link, 0, 2, 2, 1, 1, 1);
        Due.crossing(link, 1, 3, 4, 4, 3, -1);
        link = Due.braid(4, -2);
        Due.counts(link, 1, 2, 3, -1, 3, 1);
        Due.crossing(link, 0, 2, 3, 3, 2, -1);
    }

    private static void eightLetters() {
        LinkDiagram link = Due.braid(4, 3, 3, 3, 3, 3, 3, 3, 3);
        Due.counts(link, 8, 2, 4, 8, 10, 1);
        Due.crossing(link, 0, 4, 6, 5, 3, 1);
        Due.crossing(link, 1, 6, 8, 7, 5, 1);
        Due.crossing(link, 6, 16, 18, 17, 15, 1);
        Due.crossing(link, 7, 18, 4, 3, 17, 1);
    }

    private static void strandsWithoutLetters() {
        for (int n = 1; n <= 4; n++) {
            LinkDiagram link = Due.braid(n);
            Due.counts(link, 0, n, n, 0, 0, 0);
        }
        Due.counts(Due.braid(3, 1, 1), 2, 1, 3, 2, 4, 1);
        Due.counts(Due.braid(4, 2, 2), 2, 2, 4, 2, 4, 1);
    }

    private static void braidBounds() {
        LinkDiagram link = Due.braid(2, 1, 1);
        for (int n : new int[] {0, 5, -1, 100, Integer.MIN_VALUE, Integer.MAX_VALUE}) {
            Due.no("braid(" + n + ")", link.braid(n));
        }
        Due.counts(link, 2, 0, 2, 2, 4, 1);
    }

    private static void letterNotBelow() {
        for (int g = 1; g <= 3; g++) {
            for (int sign = -1; sign <= 1; sign += 2) {
                LinkDiagram link = new LinkDiagram();
                link.take(3);
                Due.yes("letter(1)", link.letter(1));
                Due.yes("letter", link.letter(sign * g));
                for (int n = 1; n <= g; n++) {
                    Due.no("braid(" + n + ") with " + sign * g, link.braid(n));
                }
                // A refused braid keeps the diagram and the word.
                Due.counts(link, 0, 3);
                Due.yes("braid(" + (g + 1) + ")", link.braid(g + 1));
                Due.same("count(0)", link.count(0), 2);
                Due.same("count(3)", link.count(3), 1 + sign);
                Due.yes("braid(1), as the word is empty", link.braid(1));
            }
        }
    }

    private static void formerDiagramIsGone() {
        LinkDiagram link = new LinkDiagram();
        link.take(4);
        link.letter(1);
        Due.yes("braid(2)", link.braid(2));
        Due.counts(link, 1, 0, 1, 1, 3, 1);
        // The draft is kept.
        link.cross(1, 1, 2, 2, true);
        Due.yes("braid(3)", link.braid(3));
        Due.counts(link, 0, 3, 3, 0, 0, 0);
        Due.same("take(0)", link.take(0), 0);
        Due.counts(link, 1, 0, 1, 1, 3, 1);
    }
}
