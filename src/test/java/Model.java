import java.util.ArrayList;
import java.util.HashSet;
import java.util.List;
import java.util.Map;
import java.util.Set;
import java.util.TreeMap;
import java.util.TreeSet;

/**
 * The document written a second time, by other ways than the class: with lists and maps, the
 * polynomials by opening one crossing after the other and by expanding the whole determinant.
 */
final class Model {
    private record Place(int x, int k) {
    }

    private record Knot(int[] edges, boolean positive) {
        Knot copy() {
            return new Knot(edges.clone(), positive);
        }

        boolean in(int k) {
            return k == 0 || k == (positive ? 3 : 1);
        }
    }

    private final List<Knot> draft = new ArrayList<>();
    private List<Knot> diagram = new ArrayList<>();
    private final List<Integer> word = new ArrayList<>();
    private int circles = 1;

    boolean cross(int a, int b, int c, int d, boolean positive) {
        for (int edge : new int[] {a, b, c, d}) {
            if (edge < 1 || edge > 32) {
                return false;
            }
        }
        return draft.size() < 8 && draft.add(new Knot(new int[] {a, b, c, d}, positive));
    }

    int drop() {
        if (!draft.isEmpty()) {
            draft.remove(draft.size() - 1);
        }
        return draft.size();
    }

    int take(int wanted) {
        if (wanted < 0 || wanted > 4 || wanted == 0 && draft.isEmpty()) {
            return 1;
        }
        for (int edge = 1; edge <= 32; edge++) {
            List<Place> all = bearers(draft, edge);
            int ins = 0;
            for (Place place : all) {
                ins += draft.get(place.x).in(place.k) ? 1 : 0;
            }
            if (!all.isEmpty() && (all.size() != 2 || ins != 1)) {
                return 2;
            }
        }
        if (faces(draft).size() != draft.size() + 2 * pieces(draft)) {
            return 3;
        }
        diagram = new ArrayList<>(draft);
        draft.clear();
        circles = wanted;
        return 0;
    }

    boolean letter(int g) {
        return g != 0 && g > -4 && g < 4 && word.size() < 8 && word.add(g);
    }

    boolean braid(int n) {
        if (n < 1 || n > 4) {
            return false;
        }
        for (int g : word) {
            if (Math.abs(g) >= n) {
                return false;
            }
        }
        List<Knot> made = new ArrayList<>();
        List<Integer> at = new ArrayList<>();
        for (int p = 0; p <= n; p++) {
            at.add(p);
        }
        int fresh = n;
        for (int g : word) {
            int place = Math.abs(g);
            int x = at.get(place);
            int y = at.get(place + 1);
            int u = ++fresh;
            int v = ++fresh;
            made.add(g > 0 ? new Knot(new int[] {y, v, u, x}, true) : new Knot(new int[] {x, y, v, u}, false));
            at.set(place, u);
            at.set(place + 1, v);
        }
        circles = 0;
        for (int p = 1; p <= n; p++) {
            if (at.get(p) == p) {
                circles++;
            }
            for (Place place : bearers(made, at.get(p))) {
                made.get(place.x).edges[place.k] = p;
            }
        }
        diagram = made;
        word.clear();
        return true;
    }

    int count(int k) {
        int writhe = 0;
        for (Knot knot : diagram) {
            writhe += knot.positive ? 1 : -1;
        }
        return switch (k) {
            case 0 -> diagram.size();
            case 1 -> circles;
            case 2 -> components() + circles;
            case 3 -> writhe;
            case 4 -> faces(diagram).size();
            case 5 -> pieces(diagram);
            default -> -100;
        };
    }

    int end(int x, int k) {
        if (x < 0 || x >= diagram.size() || k < 0 || k > 4) {
            return -100;
        }
        Knot knot = diagram.get(x);
        return k < 4 ? knot.edges[k] : knot.positive ? 1 : -1;
    }

    // ---- the polynomials ----

    Map<Integer, Long> first() {
        Map<Integer, Long> sum = new TreeMap<>();
        open(0, 0, new ArrayList<>(), sum);
        int writhe = count(3);
        Map<Integer, Long> moved = new TreeMap<>();
        for (Map.Entry<Integer, Long> term : sum.entrySet()) {
            add(moved, term.getKey() - 3 * writhe, writhe % 2 == 0 ? term.getValue() : -term.getValue());
        }
        return moved;
    }

    /** Opens the crossings from x on; the joints are pairs of ends of those before. */
    private void open(int x, int power, List<Place[]> joints, Map<Integer, Long> sum) {
        if (x == diagram.size()) {
            Map<Integer, Long> term = new TreeMap<>(Map.of(power, 1L));
            Map<Integer, Long> curve = new TreeMap<>(Map.of(2, -1L, -2, -1L));
            for (int i = 1; i < curves(joints) + circles; i++) {
                term = times(term, curve);
            }
            term.forEach((e, c) -> add(sum, e, c));
            return;
        }
        List<Place[]> along = new ArrayList<>(joints);
        along.add(new Place[] {new Place(x, 0), new Place(x, 1)});
        along.add(new Place[] {new Place(x, 2), new Place(x, 3)});
        open(x + 1, power + 1, along, sum);
        List<Place[]> across = new ArrayList<>(joints);
        across.add(new Place[] {new Place(x, 1), new Place(x, 2)});
        across.add(new Place[] {new Place(x, 3), new Place(x, 0)});
        open(x + 1, power - 1, across, sum);
    }

    /** Closed curves are the classes of edges under the joints. */
    private int curves(List<Place[]> joints) {
        List<Set<Integer>> classes = new ArrayList<>();
        for (int edge : occurring()) {
            classes.add(new HashSet<>(Set.of(edge)));
        }
        for (Place[] joint : joints) {
            unite(classes, edge(joint[0]), edge(joint[1]));
        }
        return classes.size();
    }

    List<Long> second() {
        List<Set<Integer>> arcs = new ArrayList<>();
        for (int edge : occurring()) {
            arcs.add(new TreeSet<>(Set.of(edge)));
        }
        for (Knot knot : diagram) {
            unite(arcs, knot.edges[1], knot.edges[3]);
        }
        arcs.sort((p, q) -> Integer.compare(((TreeSet<Integer>) p).first(), ((TreeSet<Integer>) q).first()));
        int order = arcs.size() + circles - 1;
        if (order > diagram.size()) {
            return List.of();
        }
        List<List<Map<Integer, Long>>> matrix = new ArrayList<>();
        for (int row = 0; row < order; row++) {
            List<Map<Integer, Long>> entries = new ArrayList<>();
            for (int column = 0; column < order; column++) {
                entries.add(entry(diagram.get(row), column < arcs.size() ? arcs.get(column) : Set.of()));
            }
            matrix.add(entries);
        }
        return normal((TreeMap<Integer, Long>) determinant(matrix, 0, new HashSet<>()));
    }

    private static Map<Integer, Long> entry(Knot knot, Set<Integer> arc) {
        Map<Integer, Long> sum = new TreeMap<>();
        if (arc.contains(knot.edges[1])) {
            add(sum, 0, 1);
            add(sum, 1, -1);
        }
        if (arc.contains(knot.edges[knot.positive ? 0 : 2])) {
            add(sum, 1, 1);
        }
        if (arc.contains(knot.edges[knot.positive ? 2 : 0])) {
            add(sum, 0, -1);
        }
        return sum;
    }

    private static Map<Integer, Long> determinant(List<List<Map<Integer, Long>>> matrix, int row, Set<Integer> used) {
        if (row == matrix.size()) {
            return new TreeMap<>(Map.of(0, 1L));
        }
        Map<Integer, Long> sum = new TreeMap<>();
        long sign = 1;
        for (int column = 0; column < matrix.size(); column++) {
            if (used.contains(column)) {
                continue;
            }
            Map<Integer, Long> factor = matrix.get(row).get(column);
            if (!factor.isEmpty()) {
                used.add(column);
                long now = sign;
                times(factor, determinant(matrix, row + 1, used)).forEach((e, c) -> add(sum, e, now * c));
                used.remove(column);
            }
            sign = -sign;
        }
        return sum;
    }

    private static List<Long> normal(TreeMap<Integer, Long> polynomial) {
        List<Long> coefficients = new ArrayList<>();
        if (polynomial.isEmpty()) {
            return coefficients;
        }
        long sign = polynomial.lastEntry().getValue() < 0 ? -1 : 1;
        for (int e = polynomial.firstKey(); e <= polynomial.lastKey(); e++) {
            coefficients.add(sign * polynomial.getOrDefault(e, 0L));
        }
        return coefficients;
    }

    private static Map<Integer, Long> times(Map<Integer, Long> p, Map<Integer, Long> q) {
        Map<Integer, Long> product = new TreeMap<>();
        p.forEach((e, c) -> q.forEach((f, d) -> add(product, e + f, c * d)));
        return product;
    }

    private static void add(Map<Integer, Long> sum, int e, long c) {
        long now = sum.getOrDefault(e, 0L) + c;
        if (now == 0) {
            sum.remove(e);
        } else {
            sum.put(e, now);
        }
    }

    // ---- the moves ----

    boolean twist(int edge, int kind) {
        if (diagram.size() == 8 || kind < 0 || kind > 3) {
            return false;
        }
        List<Integer> free = free();
        int e = edge;
        int f = free.get(0);
        int g = free.get(1);
        if (edge == 0) {
            if (circles == 0) {
                return false;
            }
            circles--;
            e = free.get(0);
            f = free.get(1);
            g = e;
        } else if (!occurring().contains(edge)) {
            return false;
        } else {
            comeIn(g, e);
        }
        diagram.add(switch (kind) {
            case 0 -> new Knot(new int[] {e, g, f, f}, true);
            case 1 -> new Knot(new int[] {e, f, f, g}, false);
            case 2 -> new Knot(new int[] {f, f, g, e}, true);
            default -> new Knot(new int[] {f, e, g, f}, false);
        });
        return true;
    }

    boolean untwist(int x) {
        if (x < 0 || x >= diagram.size()) {
            return false;
        }
        Knot knot = diagram.get(x);
        for (int k = 0; k < 4; k++) {
            if (knot.edges[k] == knot.edges[(k + 1) % 4]) {
                int one = (k + 2) % 4;
                int two = (k + 3) % 4;
                int p = knot.edges[knot.in(one) ? one : two];
                int q = knot.edges[knot.in(one) ? two : one];
                diagram.remove(x);
                join(p, q);
                return true;
            }
        }
        return false;
    }

    boolean poke(int e, boolean right, int f, boolean fRight) {
        Set<Integer> occurring = occurring();
        if (diagram.size() > 6 || !occurring.contains(e) || !occurring.contains(f) || e == f) {
            return false;
        }
        Set<Place> beside = null;
        for (Set<Place> face : faces(diagram)) {
            if (face.contains(place(e, right))) {
                beside = face;
            }
        }
        if (!beside.contains(place(f, fRight))) {
            return false;
        }
        List<Integer> free = free();
        int e1 = free.get(0);
        int e2 = free.get(1);
        int f1 = free.get(2);
        int f2 = free.get(3);
        comeIn(e2, e);
        comeIn(f2, f);
        int[][] ends = right
            ? fRight ? new int[][] {{f1, e, f2, e1}, {f, e2, f1, e1}} : new int[][] {{f, e1, f1, e}, {f1, e1, f2, e2}}
            : fRight ? new int[][] {{f, e, f1, e1}, {f1, e2, f2, e1}} : new int[][] {{f1, e1, f2, e}, {f, e1, f1, e2}};
        diagram.add(new Knot(ends[0], !fRight));
        diagram.add(new Knot(ends[1], fRight));
        return true;
    }

    boolean unpoke(int x, int y) {
        if (x == y || Math.min(x, y) < 0 || Math.max(x, y) >= diagram.size()) {
            return false;
        }
        for (int k = 0; k < 4; k++) {
            Set<Place> face = faceWith(new Place(x, k));
            if (face.size() != 2 || !crossingsOf(face).equals(Set.of(x, y))) {
                continue;
            }
            int upper = 0;
            int lower = 0;
            for (Place place : face) {
                int edge = edge(place);
                int odd = place(edge, true).k % 2 + place(edge, false).k % 2;
                upper = odd == 2 ? edge : upper;
                lower = odd == 0 ? edge : lower;
            }
            if (upper != 0 && lower != 0) {
                int p = edge(across(place(upper, false)));
                int q = edge(across(place(upper, true)));
                int r = edge(across(place(lower, false)));
                int s = edge(across(place(lower, true)));
                diagram.remove(Math.max(x, y));
                diagram.remove(Math.min(x, y));
                join(p, q);
                join(r == q ? p : r, s == q ? p : s);
                return true;
            }
        }
        return false;
    }

    boolean slide(int x, int y, int z) {
        if (x == y || y == z || x == z || Math.min(x, Math.min(y, z)) < 0
            || Math.max(x, Math.max(y, z)) >= diagram.size()) {
            return false;
        }
        for (int k = 0; k < 4; k++) {
            Set<Place> face = faceWith(new Place(x, k));
            boolean upper = false;
            for (Place place : face) {
                upper |= place(edge(place), true).k % 2 == 1 && place(edge(place), false).k % 2 == 1;
            }
            if (face.size() == 3 && crossingsOf(face).equals(Set.of(x, y, z)) && upper) {
                slideAlong(face);
                return true;
            }
        }
        return false;
    }

    private void slideAlong(Set<Place> face) {
        Map<Integer, Integer> changed = new TreeMap<>();
        for (Place place : face) {
            int u = edge(place);
            Place out = place(u, false);
            Place in = place(u, true);
            int p = edge(across(out));
            int q = edge(across(in));
            changed.put(number(across(out)), u);
            changed.put(number(out), q);
            changed.put(number(in), p);
            changed.put(number(across(in)), u);
        }
        changed.forEach((number, edge) -> diagram.get(number / 4).edges[number % 4] = edge);
    }

    private static int number(Place place) {
        return 4 * place.x + place.k;
    }

    private void join(int p, int q) {
        if (p == q) {
            circles++;
        } else {
            comeIn(p, q);
        }
    }

    /** p comes in where q came in. */
    private void comeIn(int p, int q) {
        Place in = place(q, true);
        if (in != null) {
            diagram.get(in.x).edges[in.k] = p;
        }
    }

    private List<Integer> free() {
        List<Integer> free = new ArrayList<>();
        for (int edge = 1; edge <= 32; edge++) {
            free.add(edge);
        }
        free.removeAll(occurring());
        return free;
    }

    // ---- ends and faces ----

    private int edge(Place place) {
        return diagram.get(place.x).edges[place.k];
    }

    private static Place across(Place place) {
        return new Place(place.x, (place.k + 2) % 4);
    }

    private Place place(int edge, boolean in) {
        for (Place place : bearers(diagram, edge)) {
            if (diagram.get(place.x).in(place.k) == in) {
                return place;
            }
        }
        return null;
    }

    private Set<Integer> occurring() {
        Set<Integer> all = new TreeSet<>();
        for (Knot knot : diagram) {
            for (int edge : knot.edges) {
                all.add(edge);
            }
        }
        return all;
    }

    private static List<Place> bearers(List<Knot> knots, int edge) {
        List<Place> all = new ArrayList<>();
        for (int x = 0; x < knots.size(); x++) {
            for (int k = 0; k < 4; k++) {
                if (knots.get(x).edges[k] == edge) {
                    all.add(new Place(x, k));
                }
            }
        }
        return all;
    }

    private static Place following(List<Knot> knots, Place place) {
        List<Place> two = bearers(knots, knots.get(place.x).edges[place.k]);
        Place other = two.get(0).equals(place) ? two.get(1) : two.get(0);
        return new Place(other.x, (other.k + 3) % 4);
    }

    private static List<Set<Place>> faces(List<Knot> knots) {
        List<Set<Place>> faces = new ArrayList<>();
        Set<Place> met = new HashSet<>();
        for (int x = 0; x < knots.size(); x++) {
            for (int k = 0; k < 4; k++) {
                Set<Place> face = new HashSet<>();
                for (Place place = new Place(x, k); met.add(place); place = following(knots, place)) {
                    face.add(place);
                }
                if (!face.isEmpty()) {
                    faces.add(face);
                }
            }
        }
        return faces;
    }

    private Set<Place> faceWith(Place place) {
        for (Set<Place> face : faces(diagram)) {
            if (face.contains(place)) {
                return face;
            }
        }
        return Set.of();
    }

    private static Set<Integer> crossingsOf(Set<Place> face) {
        Set<Integer> all = new HashSet<>();
        for (Place place : face) {
            all.add(place.x);
        }
        return all;
    }

    /** Of every end of every face: its crossing, its edge, and 1 when the face is on the edge's right. */
    List<List<int[]>> faceEnds() {
        List<List<int[]>> told = new ArrayList<>();
        for (Set<Place> face : faces(diagram)) {
            List<int[]> ends = new ArrayList<>();
            for (int number = 0; number < 4 * diagram.size(); number++) {
                Place place = new Place(number / 4, number % 4);
                if (face.contains(place)) {
                    ends.add(new int[] {place.x, edge(place), diagram.get(place.x).in(place.k) ? 1 : 0});
                }
            }
            told.add(ends);
        }
        return told;
    }

    private static int pieces(List<Knot> knots) {
        List<Set<Integer>> classes = new ArrayList<>();
        for (int x = 0; x < knots.size(); x++) {
            classes.add(new HashSet<>(Set.of(x)));
        }
        for (int edge = 1; edge <= 32; edge++) {
            List<Place> two = bearers(knots, edge);
            if (!two.isEmpty()) {
                unite(classes, two.get(0).x, two.get(1).x);
            }
        }
        return classes.size();
    }

    private int components() {
        List<Set<Integer>> classes = new ArrayList<>();
        for (int edge : occurring()) {
            classes.add(new HashSet<>(Set.of(edge)));
        }
        for (Knot knot : diagram) {
            unite(classes, knot.edges[0], knot.edges[2]);
            unite(classes, knot.edges[1], knot.edges[3]);
        }
        return classes.size();
    }

    private static void unite(List<Set<Integer>> classes, int one, int two) {
        Set<Integer> first = null;
        Set<Integer> second = null;
        for (Set<Integer> each : classes) {
            first = each.contains(one) ? each : first;
            second = each.contains(two) ? each : second;
        }
        if (first != second) {
            first.addAll(second);
            Set<Integer> gone = second;
            classes.removeIf(each -> each == gone);
        }
    }
}
