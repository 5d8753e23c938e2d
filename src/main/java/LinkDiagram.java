import java.util.Arrays;

/**
 * A diagram of a knot or link on a sphere, moves that leave the link as it is, and two
 * polynomials of it. An end k of a crossing x is told everywhere by the one number 4 * x + k.
 */
public final class LinkDiagram {
    public static final int NONE = -100;

    private static final int MOST_CROSSINGS = 8;
    private static final int MOST_ENDS = 32;
    private static final int MOST_EDGE = 32;
    private static final int MOST_LETTERS = 8;
    private static final int MOST_GENERATOR = 3;
    private static final int MOST_STRANDS = 4;
    private static final int MOST_TAKEN_CIRCLES = 4;
    private static final int NO_END = -1;

    private final Crossings draft = new Crossings();
    private final Crossings diagram = new Crossings();
    private final Crossings former = new Crossings();
    private final Shape shape = new Shape();
    private final Bracket bracket = new Bracket();
    private final ArcMatrix arcMatrix = new ArcMatrix();
    private final int[] word = new int[MOST_LETTERS];
    private final int[] places = new int[MOST_STRANDS + 1];
    private int letters;
    private int circles;

    public LinkDiagram() {
        letters = 0;
        circles = 1;
    }

    // ---- the draft ----

    public boolean cross(int a, int b, int c, int d, boolean positive) {
        if (draft.isFull() || !isEdge(a) || !isEdge(b) || !isEdge(c) || !isEdge(d)) {
            return false;
        }
        draft.append(a, b, c, d, positive);
        return true;
    }

    public int drop() {
        draft.remove(draft.size() - 1);
        return draft.size();
    }

    public int take(int circles) {
        if (circles < 0 || circles > MOST_TAKEN_CIRCLES || (circles == 0 && draft.size() == 0)) {
            return 1;
        }
        if (!shape.fits(draft)) {
            return 2;
        }
        if (!shape.isFlat(draft)) {
            return 3;
        }
        diagram.copyFrom(draft);
        this.circles = circles;
        draft.clear();
        return 0;
    }

    private static boolean isEdge(int edge) {
        return edge >= 1 && edge <= MOST_EDGE;
    }

    // ---- the word ----

    public boolean letter(int g) {
        boolean known = g != 0 && g >= -MOST_GENERATOR && g <= MOST_GENERATOR;
        if (!known || letters >= MOST_LETTERS) {
            return false;
        }
        word[letters] = g;
        letters++;
        return true;
    }

    public boolean braid(int n) {
        if (n < 1 || n > MOST_STRANDS || !wordIsBelow(n)) {
            return false;
        }
        diagram.clear();
        circles = 0;
        for (int p = 1; p <= n; p++) {
            places[p] = p;
        }
        for (int i = 0; i < letters; i++) {
            weave(word[i], n + 1 + 2 * i);
        }
        for (int p = 1; p <= n; p++) {
            closePlace(p);
        }
        letters = 0;
        return true;
    }

    private boolean wordIsBelow(int n) {
        for (int i = 0; i < letters; i++) {
            if (Math.abs(word[i]) >= n) {
                return false;
            }
        }
        return true;
    }

    private void weave(int g, int u) {
        int at = Math.abs(g);
        int x = places[at];
        int y = places[at + 1];
        int v = u + 1;
        if (g > 0) {
            diagram.append(y, v, u, x, true);
        } else {
            diagram.append(x, y, v, u, false);
        }
        places[at] = u;
        places[at + 1] = v;
    }

    private void closePlace(int p) {
        if (places[p] == p) {
            circles++;
        } else {
            diagram.rename(places[p], p);
        }
    }

    // ---- what the diagram is ----

    public int count(int k) {
        switch (k) {
            case 0:
                return diagram.size();
            case 1:
                return circles;
            case 2:
                return shape.strands(diagram) + circles;
            case 3:
                return diagram.writhe();
            case 4:
                return shape.faces(diagram);
            case 5:
                return shape.pieces(diagram);
            default:
                return NONE;
        }
    }

    public int end(int x, int k) {
        if (!diagram.has(x) || k < 0 || k > 4) {
            return NONE;
        }
        if (k == 4) {
            return diagram.isPositive(x) ? 1 : -1;
        }
        return diagram.edgeAt(4 * x + k);
    }

    public long first(int e) {
        long writhe = diagram.writhe();
        long coefficient = bracket.coefficient(diagram, circles, e + 3 * writhe);
        // (-A^3)^-w has the sign of w's parity, and moves every exponent by -3w.
        return writhe % 2 == 0 ? coefficient : -coefficient;
    }

    public long second(int e) {
        return arcMatrix.coefficient(diagram, circles, e);
    }

    // ---- the moves ----

    public boolean twist(int edge, int kind) {
        if (diagram.isFull() || kind < 0 || kind > 3) {
            return false;
        }
        int one = freeEdge(0);
        int two = freeEdge(1);
        if (edge == 0) {
            if (circles == 0) {
                return false;
            }
            circles--;
            appendTwist(kind, one, two, one);
            return true;
        }
        if (!diagram.occurs(edge)) {
            return false;
        }
        diagram.bringIn(two, edge);
        appendTwist(kind, edge, one, two);
        return true;
    }

    private void appendTwist(int kind, int e, int f, int g) {
        switch (kind) {
            case 0:
                diagram.append(e, g, f, f, true);
                break;
            case 1:
                diagram.append(e, f, f, g, false);
                break;
            case 2:
                diagram.append(f, f, g, e, true);
                break;
            default:
                diagram.append(f, e, g, f, false);
                break;
        }
    }

    public boolean untwist(int x) {
        int loop = loopEnd(x);
        if (loop == NO_END) {
            return false;
        }
        int one = turned(loop, 2);
        int two = turned(loop, 3);
        boolean inAtOne = diagram.comesIn(one);
        int p = diagram.edgeAt(inAtOne ? one : two);
        int q = diagram.edgeAt(inAtOne ? two : one);
        diagram.remove(x);
        join(p, q);
        return true;
    }

    private int loopEnd(int x) {
        if (!diagram.has(x)) {
            return NO_END;
        }
        for (int end = 4 * x; end < 4 * x + 4; end++) {
            if (diagram.edgeAt(end) == diagram.edgeAt(turned(end, 1))) {
                return end;
            }
        }
        return NO_END;
    }

    public boolean poke(int e, boolean right, int f, boolean fRight) {
        if (diagram.size() > MOST_CROSSINGS - 2 || e == f) {
            return false;
        }
        if (!diagram.occurs(e) || !diagram.occurs(f)) {
            return false;
        }
        if (!shape.sameFace(diagram, diagram.endOn(e, right), diagram.endOn(f, fRight))) {
            return false;
        }
        // All four are looked up before the first change, as a change would make one occur.
        int e1 = freeEdge(0);
        int e2 = freeEdge(1);
        int f1 = freeEdge(2);
        int f2 = freeEdge(3);
        diagram.bringIn(e2, e);
        diagram.bringIn(f2, f);
        if (right && fRight) {
            diagram.append(f1, e, f2, e1, false);
            diagram.append(f, e2, f1, e1, true);
        } else if (right) {
            diagram.append(f, e1, f1, e, true);
            diagram.append(f1, e1, f2, e2, false);
        } else if (fRight) {
            diagram.append(f, e, f1, e1, false);
            diagram.append(f1, e2, f2, e1, true);
        } else {
            diagram.append(f1, e1, f2, e, true);
            diagram.append(f, e1, f1, e2, false);
        }
        return true;
    }

    public boolean unpoke(int x, int y) {
        if (x == y || !diagram.has(x) || !diagram.has(y)) {
            return false;
        }
        for (int end = 4 * x; end < 4 * x + 4; end++) {
            if (isPokedFace(end, y)) {
                pullApart(end, diagram.follow(end));
                return true;
            }
        }
        return false;
    }

    private boolean isPokedFace(int end, int y) {
        int next = diagram.follow(end);
        if (crossingOf(next) != y || diagram.follow(next) != end) {
            return false;
        }
        // At each corner the two edges are on different strands, so one edge settles both.
        return isUpper(end) == isUpper(diagram.otherEnd(end));
    }

    private void pullApart(int one, int two) {
        int upper = isUpper(one) ? one : two;
        int lower = isUpper(one) ? two : one;
        int p = diagram.edgeBefore(upper);
        int q = diagram.edgeBehind(upper);
        int r = diagram.edgeBefore(lower);
        int s = diagram.edgeBehind(lower);
        // The later one goes first, so that the other keeps its number.
        diagram.remove(Math.max(crossingOf(one), crossingOf(two)));
        diagram.remove(Math.min(crossingOf(one), crossingOf(two)));
        join(p, q);
        join(r == q ? p : r, s == q ? p : s);
    }

    public boolean slide(int x, int y, int z) {
        if (x == y || y == z || x == z) {
            return false;
        }
        if (!diagram.has(x) || !diagram.has(y) || !diagram.has(z)) {
            return false;
        }
        for (int end = 4 * x; end < 4 * x + 4; end++) {
            if (isSlidingFace(end, y, z)) {
                slideFace(end);
                return true;
            }
        }
        return false;
    }

    private boolean isSlidingFace(int end, int y, int z) {
        int next = diagram.follow(end);
        int last = diagram.follow(next);
        if (diagram.follow(last) != end) {
            return false;
        }
        boolean inOrder = crossingOf(next) == y && crossingOf(last) == z;
        boolean inTurn = crossingOf(next) == z && crossingOf(last) == y;
        if (!inOrder && !inTurn) {
            return false;
        }
        return isUpperEdge(end) || isUpperEdge(next) || isUpperEdge(last);
    }

    private boolean isUpperEdge(int end) {
        return isUpper(end) && isUpper(diagram.otherEnd(end));
    }

    private void slideFace(int end) {
        // The three edges change all at once: what was is read from the copy alone.
        former.copyFrom(diagram);
        int next = former.follow(end);
        slideEdge(end);
        slideEdge(next);
        slideEdge(former.follow(next));
    }

    private void slideEdge(int end) {
        int u = former.edgeAt(end);
        int p = former.edgeBefore(end);
        int q = former.edgeBehind(end);
        int outOfV = former.outgoing(end);
        int intoW = former.incoming(end);
        diagram.setEdge(opposite(outOfV), u);
        diagram.setEdge(outOfV, q);
        diagram.setEdge(intoW, p);
        diagram.setEdge(opposite(intoW), u);
    }

    private void join(int p, int q) {
        if (p == q) {
            circles++;
        } else {
            diagram.bringIn(p, q);
        }
    }

    /** The free edge that has so many free ones before it; 0 if there is none. */
    private int freeEdge(int before) {
        int left = before;
        for (int edge = 1; edge <= MOST_EDGE; edge++) {
            if (!diagram.occurs(edge)) {
                if (left == 0) {
                    return edge;
                }
                left--;
            }
        }
        return 0;
    }

    // ---- ends ----

    private static int crossingOf(int end) {
        return end >> 2;
    }

    private static boolean isUpper(int end) {
        return (end & 1) == 1;
    }

    private static int opposite(int end) {
        return end ^ 2;
    }

    private static int turned(int end, int by) {
        return (end & ~3) | ((end + by) & 3);
    }

    /** Crossings in their order. What asks for the other end of an edge needs them to fit. */
    private static final class Crossings {
        private final int[] edges = new int[MOST_ENDS];
        private final int[] signs = new int[MOST_CROSSINGS];
        private int size = 0;

        int size() {
            return size;
        }

        int ends() {
            return 4 * size;
        }

        boolean isFull() {
            return size >= MOST_CROSSINGS;
        }

        boolean has(int x) {
            return x >= 0 && x < size;
        }

        int edgeAt(int end) {
            return edges[end];
        }

        void setEdge(int end, int edge) {
            edges[end] = edge;
        }

        boolean isPositive(int x) {
            return signs[x] > 0;
        }

        void append(int a, int b, int c, int d, boolean positive) {
            if (isFull()) {
                return;
            }
            int at = 4 * size;
            edges[at] = a;
            edges[at + 1] = b;
            edges[at + 2] = c;
            edges[at + 3] = d;
            signs[size] = positive ? 1 : -1;
            size++;
        }

        void remove(int x) {
            if (!has(x)) {
                return;
            }
            int behind = size - x - 1;
            System.arraycopy(edges, 4 * x + 4, edges, 4 * x, 4 * behind);
            System.arraycopy(signs, x + 1, signs, x, behind);
            size--;
        }

        void clear() {
            size = 0;
        }

        void copyFrom(Crossings other) {
            System.arraycopy(other.edges, 0, edges, 0, MOST_ENDS);
            System.arraycopy(other.signs, 0, signs, 0, MOST_CROSSINGS);
            size = other.size;
        }

        int writhe() {
            int sum = 0;
            for (int x = 0; x < size; x++) {
                sum += signs[x];
            }
            return sum;
        }

        boolean comesIn(int end) {
            int k = end & 3;
            if (isUpper(k)) {
                return (k == 3) == isPositive(crossingOf(end));
            }
            return k == 0;
        }

        boolean occurs(int edge) {
            for (int end = 0; end < ends(); end++) {
                if (edges[end] == edge) {
                    return true;
                }
            }
            return false;
        }

        int otherEnd(int end) {
            for (int other = 0; other < ends(); other++) {
                if (other != end && edges[other] == edges[end]) {
                    return other;
                }
            }
            return end;
        }

        int follow(int end) {
            return turned(otherEnd(end), 3);
        }

        int incoming(int end) {
            return comesIn(end) ? end : otherEnd(end);
        }

        int outgoing(int end) {
            return comesIn(end) ? otherEnd(end) : end;
        }

        /** The edge by which the strand comes to the crossing that the edge at this end leaves. */
        int edgeBefore(int end) {
            return edges[opposite(outgoing(end))];
        }

        /** The edge by which the strand leaves the crossing that the edge at this end comes to. */
        int edgeBehind(int end) {
            return edges[opposite(incoming(end))];
        }

        /** The end of an edge that is in the face on the edge's right, or on its left. */
        int endOn(int edge, boolean right) {
            for (int end = 0; end < ends(); end++) {
                if (edges[end] == edge && comesIn(end) == right) {
                    return end;
                }
            }
            return NO_END;
        }

        /** Lets p come in where q came in. */
        void bringIn(int p, int q) {
            int end = endOn(q, true);
            if (end != NO_END) {
                edges[end] = p;
            }
        }

        void rename(int from, int to) {
            for (int end = 0; end < ends(); end++) {
                if (edges[end] == from) {
                    edges[end] = to;
                }
            }
        }
    }

    /** Whether crossings fit and are flat, and their faces, pieces and strands. */
    private static final class Shape {
        private final int[] seen = new int[MOST_ENDS];
        private final int[] pieceOf = new int[MOST_CROSSINGS];

        boolean fits(Crossings crossings) {
            for (int end = 0; end < crossings.ends(); end++) {
                if (!fitsAt(crossings, end)) {
                    return false;
                }
            }
            return true;
        }

        private boolean fitsAt(Crossings crossings, int end) {
            int bearers = 0;
            int comings = 0;
            for (int other = 0; other < crossings.ends(); other++) {
                if (crossings.edgeAt(other) == crossings.edgeAt(end)) {
                    bearers++;
                    comings += crossings.comesIn(other) ? 1 : 0;
                }
            }
            return bearers == 2 && comings == 1;
        }

        boolean isFlat(Crossings crossings) {
            return faces(crossings) == crossings.size() + 2 * pieces(crossings);
        }

        int faces(Crossings crossings) {
            Arrays.fill(seen, 0);
            int faces = 0;
            for (int start = 0; start < crossings.ends(); start++) {
                if (seen[start] == 0) {
                    faces++;
                    markFace(crossings, start);
                }
            }
            return faces;
        }

        private void markFace(Crossings crossings, int start) {
            int end = start;
            for (int step = 0; step < MOST_ENDS && seen[end] == 0; step++) {
                seen[end] = 1;
                end = crossings.follow(end);
            }
        }

        boolean sameFace(Crossings crossings, int one, int two) {
            if (one == NO_END || two == NO_END) {
                return false;
            }
            Arrays.fill(seen, 0);
            markFace(crossings, one);
            return seen[two] == 1;
        }

        int pieces(Crossings crossings) {
            for (int x = 0; x < crossings.size(); x++) {
                pieceOf[x] = x;
            }
            int pieces = crossings.size();
            for (int end = 0; end < crossings.ends(); end++) {
                int one = pieceOf[crossingOf(end)];
                int two = pieceOf[crossingOf(crossings.otherEnd(end))];
                if (one != two) {
                    mergePieces(one, two);
                    pieces--;
                }
            }
            return pieces;
        }

        private void mergePieces(int one, int two) {
            for (int x = 0; x < MOST_CROSSINGS; x++) {
                if (pieceOf[x] == two) {
                    pieceOf[x] = one;
                }
            }
        }

        /** The components that are no circles. */
        int strands(Crossings crossings) {
            Arrays.fill(seen, 0);
            int strands = 0;
            for (int start = 0; start < crossings.ends(); start++) {
                if (crossings.comesIn(start) && seen[start] == 0) {
                    strands++;
                    markStrand(crossings, start);
                }
            }
            return strands;
        }

        private void markStrand(Crossings crossings, int start) {
            int end = start;
            for (int step = 0; step < MOST_ENDS && seen[end] == 0; step++) {
                seen[end] = 1;
                end = crossings.otherEnd(opposite(end));
            }
        }
    }

    /** The bracket, as a sum over all states. */
    private static final class Bracket {
        // 16 edges make at most 16 curves. No move changes the number of components, and a
        // diagram that is taken has at most 8 of them with crossings, and 4 circles.
        private static final int MOST_CURVES = 16 + 12;
        private static final int MOST_POWER = MOST_CROSSINGS + 2 * (MOST_CURVES - 1);
        private static final int ROW = MOST_CROSSINGS + 1;

        private final int[] otherEnds = new int[MOST_ENDS];
        private final int[] states = new int[(MOST_CURVES + 1) * ROW];
        private final long[] sum = new long[2 * MOST_POWER + 1];

        long coefficient(Crossings crossings, int circles, long power) {
            if (power < -MOST_POWER || power > MOST_POWER) {
                return 0;
            }
            tallyStates(crossings, circles);
            Arrays.fill(sum, 0L);
            // By Horner's rule a state with L curves is multiplied L - 1 times.
            for (int curves = MOST_CURVES; curves >= 1; curves--) {
                multiplyByCurve();
                addStates(curves, crossings.size());
            }
            return sum[MOST_POWER + (int) power];
        }

        /** Counts the states by their closed curves and by how many crossings are opened along. */
        private void tallyStates(Crossings crossings, int circles) {
            Arrays.fill(states, 0);
            for (int end = 0; end < crossings.ends(); end++) {
                otherEnds[end] = crossings.otherEnd(end);
            }
            for (int state = 0; state < (1 << crossings.size()); state++) {
                int curves = curvesOf(state, crossings.ends()) + circles;
                if (curves <= MOST_CURVES) {
                    states[curves * ROW + Integer.bitCount(state)]++;
                }
            }
        }

        private int curvesOf(int state, int ends) {
            int curves = 0;
            int seen = 0;
            for (int start = 0; start < ends; start++) {
                if (((seen >> start) & 1) == 0) {
                    curves++;
                    seen = seenWithCurve(seen, start, state);
                }
            }
            return curves;
        }

        private int seenWithCurve(int before, int start, int state) {
            int seen = before;
            int end = start;
            for (int step = 0; step < MOST_ENDS && ((seen >> end) & 1) == 0; step++) {
                int other = otherEnds[end];
                seen |= (1 << end) | (1 << other);
                boolean along = ((state >> crossingOf(other)) & 1) == 1;
                // Along joins 0 with 1 and 2 with 3, across 0 with 3 and 1 with 2.
                end = along ? other ^ 1 : other ^ 3;
            }
            return seen;
        }

        /** Multiplies the sum by -A^2 - A^-2. */
        private void multiplyByCurve() {
            long twoBelow = 0;
            long oneBelow = 0;
            for (int i = 0; i < sum.length; i++) {
                long here = sum[i];
                long twoAbove = i + 2 < sum.length ? sum[i + 2] : 0;
                sum[i] = -twoBelow - twoAbove;
                twoBelow = oneBelow;
                oneBelow = here;
            }
        }

        private void addStates(int curves, int size) {
            for (int along = 0; along <= size; along++) {
                sum[MOST_POWER + 2 * along - size] += states[curves * ROW + along];
            }
        }
    }

    /** The matrix of crossings and arcs, and its determinant. */
    private static final class ArcMatrix {
        private static final int MOST = MOST_CROSSINGS;
        private static final int ROW = MOST + 1;

        private final int[] leastEdge = new int[MOST_EDGE + 1];
        private final int[] numberOf = new int[MOST_EDGE + 1];
        private final int[] constants = new int[MOST * MOST];
        private final int[] linears = new int[MOST * MOST];
        // The minor of a set of columns and of as many rows, the first ones: ROW coefficients.
        private final long[] minors = new long[(1 << MOST) * ROW];

        long coefficient(Crossings crossings, int circles, int power) {
            int order = numberArcs(crossings) + circles - 1;
            if (power < 0 || power > MOST || order < 0 || order > crossings.size()) {
                return 0;
            }
            fillMatrix(crossings, order);
            expandMinors(order);
            return normalCoefficient(((1 << order) - 1) * ROW, power);
        }

        /** Numbers the arcs that are no circles, and answers how many there are. */
        private int numberArcs(Crossings crossings) {
            for (int edge = 0; edge <= MOST_EDGE; edge++) {
                leastEdge[edge] = edge;
            }
            for (int x = 0; x < crossings.size(); x++) {
                mergeArcs(leastEdge[crossings.edgeAt(4 * x + 1)], leastEdge[crossings.edgeAt(4 * x + 3)]);
            }
            int arcs = 0;
            for (int edge = 1; edge <= MOST_EDGE; edge++) {
                if (leastEdge[edge] == edge && crossings.occurs(edge)) {
                    numberOf[edge] = arcs;
                    arcs++;
                }
            }
            return arcs;
        }

        private void mergeArcs(int one, int two) {
            int least = Math.min(one, two);
            for (int edge = 1; edge <= MOST_EDGE; edge++) {
                if (leastEdge[edge] == one || leastEdge[edge] == two) {
                    leastEdge[edge] = least;
                }
            }
        }

        private void fillMatrix(Crossings crossings, int order) {
            Arrays.fill(constants, 0);
            Arrays.fill(linears, 0);
            for (int x = 0; x < order; x++) {
                int right = crossings.isPositive(x) ? 4 * x : 4 * x + 2;
                addEntry(crossings, order, 4 * x + 1, 1, -1);
                addEntry(crossings, order, right, 0, 1);
                addEntry(crossings, order, opposite(right), -1, 0);
            }
        }

        /** Adds constant + linear t in the row of the end's crossing, the column of its arc. */
        private void addEntry(Crossings crossings, int order, int end, int constant, int linear) {
            int column = numberOf[leastEdge[crossings.edgeAt(end)]];
            if (column < order) {
                int at = crossingOf(end) * MOST + column;
                constants[at] += constant;
                linears[at] += linear;
            }
        }

        private void expandMinors(int order) {
            Arrays.fill(minors, 0L);
            minors[0] = 1;
            for (int columns = 1; columns < (1 << order); columns++) {
                int row = Integer.bitCount(columns) - 1;
                for (int column = 0; column < order; column++) {
                    if (((columns >> column) & 1) == 1) {
                        addProduct(columns, row, column);
                    }
                }
            }
        }

        /** Adds one term of the minor's expansion by its last row. */
        private void addProduct(int columns, int row, int column) {
            int sign = Integer.bitCount(columns >> (column + 1)) % 2 == 0 ? 1 : -1;
            long constant = sign * constants[row * MOST + column];
            long linear = sign * linears[row * MOST + column];
            int to = columns * ROW;
            int from = (columns ^ (1 << column)) * ROW;
            // The smaller minor has row rows, so its degree is at most row.
            for (int i = 0; i <= row; i++) {
                minors[to + i] += constant * minors[from + i];
                minors[to + i + 1] += linear * minors[from + i];
            }
        }

        /** Of the polynomial without its powers of t, and with a highest coefficient above 0. */
        private long normalCoefficient(int at, int power) {
            int lowest = 0;
            while (lowest < MOST && minors[at + lowest] == 0) {
                lowest++;
            }
            int highest = MOST;
            while (highest > 0 && minors[at + highest] == 0) {
                highest--;
            }
            if (lowest + power > highest) {
                return 0;
            }
            long coefficient = minors[at + lowest + power];
            return minors[at + highest] < 0 ? -coefficient : coefficient;
        }
    }
}
