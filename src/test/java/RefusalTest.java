import java.util.ArrayList;
import java.util.List;

/** A call that is refused changes nothing, and no call throws, whatever its arguments. */
public final class RefusalTest {
    private static final int[] ODD = {
        Integer.MIN_VALUE, Integer.MIN_VALUE + 1, -1000000, -100, -33, -9, 33, 100, 1000000,
        Integer.MAX_VALUE - 1, Integer.MAX_VALUE};

    public static void main(String[] args) {
        for (int odd : ODD) {
            refuse(new LinkDiagram(), odd);
            refuse(Due.braid(2, 1, 1, 1), odd);
            refuse(Due.braid(4, 1, -2, 1, -2), odd);
            refuse(Due.braid(2, 1, 1, 1, 1, -1, -1, -1, -1), odd);
        }
        fullDiagram();
        Due.finish();
    }

    private static void refuse(LinkDiagram link, int odd) {
        link.cross(3, 3, 4, 4, true);
        link.letter(3);
        List<Long> before = state(link);
        for (boolean side : new boolean[] {false, true}) {
            Due.no("cross", link.cross(odd, 1, 2, 3, side));
            Due.no("cross", link.cross(1, 2, 3, odd, side));
            Due.no("poke", link.poke(odd, side, 1, true));
            Due.no("poke", link.poke(1, side, odd, false));
            Due.no("poke", link.poke(odd, side, odd, side));
        }
        Due.same("take", link.take(odd), 1);
        Due.no("letter", link.letter(odd));
        Due.no("braid", link.braid(odd));
        Due.no("braid(3)", link.braid(3));
        Due.same("count", link.count(odd), LinkDiagram.NONE);
        Due.same("end", link.end(odd, odd), LinkDiagram.NONE);
        Due.same("first", link.first(odd), 0);
        Due.same("second", link.second(odd), 0);
        Due.no("twist", link.twist(odd, 0));
        Due.no("twist", link.twist(1, odd));
        Due.no("twist", link.twist(0, odd));
        Due.no("untwist", link.untwist(odd));
        Due.no("unpoke", link.unpoke(odd, 0));
        Due.no("unpoke", link.unpoke(0, odd));
        Due.no("slide", link.slide(odd, 0, 1));
        Due.no("slide", link.slide(0, odd, 1));
        Due.no("slide", link.slide(0, 1, odd));
        Due.yes("the diagram is the same", before.equals(state(link)));
        draftAndWordAreKept(link);
    }

    private static void draftAndWordAreKept(LinkDiagram link) {
        Due.same("take(0)", link.take(0), 0);
        Due.counts(link, 1, 0);
        Due.crossing(link, 0, 3, 3, 4, 4, 1);
        Due.yes("braid(4)", link.braid(4));
        Due.counts(link, 1, 2, 3, 1);
    }

    private static void fullDiagram() {
        LinkDiagram link = Due.braid(3, 1, 1, 1, 1, 1, 1, 1, 1);
        List<Long> before = state(link);
        for (int x = -1; x <= 9; x++) {
            Due.no("twist", link.twist(x, 0));
            Due.no("untwist", link.untwist(x));
            Due.no("poke", link.poke(1, true, x, false));
            Due.no("unpoke", link.unpoke(x, x + 1));
            Due.no("slide", link.slide(x, x + 1, x + 2));
        }
        Due.yes("the diagram is the same", before.equals(state(link)));
    }

    private static List<Long> state(LinkDiagram link) {
        List<Long> answers = new ArrayList<>();
        for (int k = 0; k <= 5; k++) {
            answers.add((long) link.count(k));
        }
        for (int x = 0; x < 8; x++) {
            for (int k = 0; k <= 4; k++) {
                answers.add((long) link.end(x, k));
            }
        }
        for (int e = -32; e <= 32; e += 2) {
            answers.add(link.first(e));
            answers.add(link.first(e + 1));
            answers.add(link.second(e / 4));
        }
        return answers;
    }
}
