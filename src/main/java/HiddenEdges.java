import java.util.Arrays;

/**
 * Hidden-line removal for triangle meshes and wires in a parallel projection, computed exactly.
 *
 * <p>The mesh is the only state that calls change, beside the view. All else (the edges, their
 * pieces, the strokes) follows from it, and is made anew only when a call asks for it.
 */
public final class HiddenEdges {
    public static final int UNKNOWN = -1, OUTSIDE = -2, STATE = -3, FULL = -4, NONE = -9;

    private static final int MOST_POINTS = 16;
    private static final int MOST_FACES = 24;
    private static final int MOST_WIRES = 8;
    private static final int MOST_EDGES = 3 * MOST_FACES + MOST_WIRES;
    // Each face has one stretch on an edge at most, so it gives two cuts beside 0 and 1.
    private static final int MOST_CUTS = 2 + 2 * MOST_FACES;
    // Visible pieces are the gaps between the stretches: one more than there are faces.
    private static final int MOST_VISIBLE = MOST_EDGES * (MOST_FACES + 1);

    private static final int FARTHEST = 9;
    private static final int LONGEST = 9;
    private static final int STEEPEST = 3;
    private static final int WIDEST_MOVE = 18;
    private static final int GREATEST_DOWN = 1000;

    private static final int SORT_WIRE = 0, SORT_BORDER = 1, SORT_FLAT = 2, SORT_OUTLINE = 3, SORT_FOLD = 4, SORT_MANY = 5;

    private static final int BLOCK_CORNERS = 8;
    private static final int BLOCK_FACES = 12;
    private static final int[] BLOCK = {
        0, 2, 3, 0, 3, 1, 4, 5, 7, 4, 7, 6, 0, 1, 5, 0, 5, 4,
        2, 6, 7, 2, 7, 3, 0, 4, 6, 0, 6, 2, 1, 3, 7, 1, 7, 5};

    // How much of what follows from the mesh and the view is up to date; each level needs those below.
    private static final int NOTHING = 0, EDGES = 1, PIECES = 2, STROKES = 3;

    private final Mesh mesh = new Mesh();
    private final Sight sight = new Sight();
    private final Edges edges = new Edges();
    private final Cuts cuts = new Cuts();
    private final Pieces pieces = new Pieces();
    private final Strokes strokes = new Strokes();
    private final Meeting meeting = new Meeting();
    private final int[] corner = new int[BLOCK_CORNERS];
    private int settled = NOTHING;
    private int meetings = NONE;

    public HiddenEdges() {
    }

    public int point(int x, int y, int z) {
        if (!isPlace(x, y, z)) {
            return OUTSIDE;
        }
        if (mesh.pointAt(x, y, z) >= 0) {
            return STATE;
        }
        if (mesh.points >= MOST_POINTS) {
            return FULL;
        }
        forget();
        return mesh.addPoint(x, y, z);
    }

    public int face(int p, int q, int r) {
        if (!mesh.hasPoint(p) || !mesh.hasPoint(q) || !mesh.hasPoint(r)) {
            return UNKNOWN;
        }
        if (mesh.onLine(p, q, r) || mesh.hasFaceOn(p, q, r)) {
            return STATE;
        }
        if (mesh.faces >= MOST_FACES) {
            return FULL;
        }
        forget();
        return mesh.addFace(p, q, r);
    }

    public int wire(int p, int q) {
        if (!mesh.hasPoint(p) || !mesh.hasPoint(q)) {
            return UNKNOWN;
        }
        if (p == q || mesh.hasWire(p, q)) {
            return STATE;
        }
        if (mesh.wires >= MOST_WIRES) {
            return FULL;
        }
        forget();
        return mesh.addWire(p, q);
    }

    public int block(int x, int y, int z, int w, int h, int t) {
        if (!isSide(x, w) || !isSide(y, h) || !isSide(z, t)) {
            return OUTSIDE;
        }
        int missing = 0;
        for (int k = 0; k < BLOCK_CORNERS; k++) {
            corner[k] = mesh.pointAt(x + bit(k, 0) * w, y + bit(k, 1) * h, z + bit(k, 2) * t);
            if (corner[k] < 0) {
                missing++;
            }
        }
        if (hasFaceOfBlock()) {
            return STATE;
        }
        if (mesh.points + missing > MOST_POINTS || mesh.faces + BLOCK_FACES > MOST_FACES) {
            return FULL;
        }
        forget();
        for (int k = 0; k < BLOCK_CORNERS; k++) {
            if (corner[k] < 0) {
                corner[k] = mesh.addPoint(x + bit(k, 0) * w, y + bit(k, 1) * h, z + bit(k, 2) * t);
            }
        }
        for (int i = 0; i + 2 < BLOCK.length; i += 3) {
            mesh.addFace(corner[BLOCK[i]], corner[BLOCK[i + 1]], corner[BLOCK[i + 2]]);
        }
        return missing;
    }

    public int cut() {
        if (mesh.faces == 0) {
            return STATE;
        }
        forget();
        mesh.faces--;
        return mesh.faces;
    }

    public int clear() {
        int before = mesh.faces;
        forget();
        mesh.points = 0;
        mesh.faces = 0;
        mesh.wires = 0;
        return before;
    }

    public int view(int a, int b, int c) {
        if (!within(a, STEEPEST) || !within(b, STEEPEST) || !within(c, STEEPEST)) {
            return OUTSIDE;
        }
        if (a == 0 && b == 0 && c == 0) {
            return OUTSIDE;
        }
        forget();
        sight.look(a, b, c);
        return 1;
    }

    public int turn(int how) {
        if (how < 0 || how > 3) {
            return OUTSIDE;
        }
        forget();
        int moved = 0;
        for (int n = 0; n < mesh.points; n++) {
            if (mesh.turnPoint(n, how)) {
                moved++;
            }
        }
        return moved;
    }

    public int move(int x, int y, int z) {
        if (!within(x, WIDEST_MOVE) || !within(y, WIDEST_MOVE) || !within(z, WIDEST_MOVE)) {
            return OUTSIDE;
        }
        for (int n = 0; n < mesh.points; n++) {
            if (!isPlace(mesh.x[n] + x, mesh.y[n] + y, mesh.z[n] + z)) {
                return STATE;
            }
        }
        forget();
        for (int n = 0; n < mesh.points; n++) {
            mesh.put(n, mesh.x[n] + x, mesh.y[n] + y, mesh.z[n] + z);
        }
        return 1;
    }

    public int ofPoint(int n, int what) {
        if (!mesh.hasPoint(n)) {
            return UNKNOWN;
        }
        switch (what) {
            case 0:
                return mesh.x[n] + 10;
            case 1:
                return mesh.y[n] + 10;
            case 2:
                return mesh.z[n] + 10;
            case 3:
                settle(EDGES);
                return sight.countHiding(n, n, 0, 1);
            case 4:
                settle(EDGES);
                return edges.countAt(n);
            default:
                return OUTSIDE;
        }
    }

    public int ofFace(int f, int what) {
        if (!mesh.hasFace(f)) {
            return UNKNOWN;
        }
        switch (what) {
            case 0:
            case 1:
            case 2:
                return mesh.cornerOf(f, what);
            case 3:
                settle(EDGES);
                return sight.swing[f] > 0 ? 1 : sight.swing[f] < 0 ? 2 : 0;
            case 4:
                settle(EDGES);
                return Math.abs(sight.swing[f]);
            default:
                return OUTSIDE;
        }
    }

    public int ofEdge(int e, int what) {
        settle(EDGES);
        if (!edges.has(e)) {
            return UNKNOWN;
        }
        switch (what) {
            case 0:
                return edges.low[e];
            case 1:
                return edges.high[e];
            case 2:
                return edges.sharing[e];
            case 3:
                return edges.sort[e];
            case 4:
                cuts.load(e, edges, sight);
                return cuts.pieceCount();
            case 5:
                cuts.load(e, edges, sight);
                return Long.bitCount(cuts.visible);
            case 6:
                return mesh.hasWire(edges.low[e], edges.high[e]) ? 1 : 0;
            default:
                return OUTSIDE;
        }
    }

    public int edge(int p, int q) {
        if (!mesh.hasPoint(p) || !mesh.hasPoint(q)) {
            return UNKNOWN;
        }
        settle(EDGES);
        return edges.between(p, q);
    }

    public int stretch(int e, int f, int which) {
        settle(EDGES);
        if (!edges.has(e) || !mesh.hasFace(f)) {
            return UNKNOWN;
        }
        if (which < 0 || which > 3) {
            return OUTSIDE;
        }
        long begin = sight.stretchBegin(edges.low[e], edges.high[e], f);
        long end = sight.stretchEnd(edges.low[e], edges.high[e], f);
        if (!Fractions.less(begin, end)) {
            return NONE;
        }
        return Fractions.part(which < 2 ? begin : end, which & 1);
    }

    public int hidden(int e, int up, int down) {
        settle(EDGES);
        if (!edges.has(e)) {
            return UNKNOWN;
        }
        if (down < 1 || down > GREATEST_DOWN || up < 0 || up > down) {
            return OUTSIDE;
        }
        return sight.countHiding(edges.low[e], edges.high[e], up, down);
    }

    public int piece(int e, int k, int what) {
        settle(EDGES);
        if (!edges.has(e)) {
            return UNKNOWN;
        }
        cuts.load(e, edges, sight);
        if (k < 0 || k >= cuts.pieceCount()) {
            return UNKNOWN;
        }
        switch (what) {
            case 0:
            case 1:
                return Fractions.part(cuts.at[k], what);
            case 2:
            case 3:
                return Fractions.part(cuts.at[k + 1], what - 2);
            case 4:
                return cuts.quantity[k];
            default:
                return OUTSIDE;
        }
    }

    public int crossing(int e, int g, int which) {
        settle(EDGES);
        if (!edges.has(e) || !edges.has(g)) {
            return UNKNOWN;
        }
        if (which < 0 || which > 4) {
            return OUTSIDE;
        }
        if (e == g) {
            return STATE;
        }
        if (!meeting.find(e, g, edges, sight)) {
            return NONE;
        }
        if (which == 4) {
            return meeting.lead > 0 ? e : meeting.lead < 0 ? g : NONE;
        }
        int up = which < 2 ? meeting.upOnFirst : meeting.upOnSecond;
        return Fractions.part(Fractions.lowest(Fractions.of(up, meeting.down)), which & 1);
    }

    public int stroke(int k, int what) {
        settle(STROKES);
        if (!strokes.has(k)) {
            return UNKNOWN;
        }
        switch (what) {
            case 0:
                return strokes.length(k);
            case 1:
                return strokes.startPoint(k, edges);
            case 2:
                return strokes.endPoint(k, edges, pieces);
            default:
                return OUTSIDE;
        }
    }

    public int strokePiece(int k, int i, int what) {
        settle(STROKES);
        if (!strokes.has(k) || i < 0 || i >= strokes.length(k)) {
            return UNKNOWN;
        }
        int step = strokes.step[strokes.first[k] + i];
        switch (what) {
            case 0:
                return Strokes.edgeOf(step);
            case 1:
                return Strokes.pieceOf(step);
            case 2:
                return Strokes.isForward(step) ? 1 : 0;
            default:
                return OUTSIDE;
        }
    }

    public int many(int what) {
        if (what < 0 || what > 11) {
            return OUTSIDE;
        }
        settle(levelFor(what));
        switch (what) {
            case 0:
                return mesh.points;
            case 1:
                return mesh.faces;
            case 2:
                return mesh.wires;
            case 3:
                return edges.count;
            case 4:
                return pieces.all;
            case 5:
                return pieces.allVisible;
            case 6:
                return edges.countSort(SORT_FLAT);
            case 7:
                return edges.countSort(SORT_OUTLINE);
            case 8:
                return strokes.count;
            case 9:
                return sight.countToEye();
            case 10:
                return countMeetings();
            default:
                return pieces.greatest;
        }
    }

    private static int levelFor(int what) {
        switch (what) {
            case 0:
            case 1:
            case 2:
                return NOTHING;
            case 4:
            case 5:
            case 11:
                return PIECES;
            case 8:
                return STROKES;
            default:
                return EDGES;
        }
    }

    private void forget() {
        settled = NOTHING;
        meetings = NONE;
    }

    private void settle(int level) {
        if (level >= EDGES && settled < EDGES) {
            sight.rebuild(mesh);
            edges.rebuild(mesh, sight);
            cuts.unload();
            settled = EDGES;
        }
        if (level >= PIECES && settled < PIECES) {
            pieces.rebuild(edges, cuts, sight);
            settled = PIECES;
        }
        if (level >= STROKES && settled < STROKES) {
            strokes.rebuild(edges, pieces);
            settled = STROKES;
        }
    }

    private int countMeetings() {
        if (meetings == NONE) {
            meetings = meeting.countAll(edges, sight);
        }
        return meetings;
    }

    private boolean hasFaceOfBlock() {
        for (int i = 0; i + 2 < BLOCK.length; i += 3) {
            if (mesh.hasFaceOn(corner[BLOCK[i]], corner[BLOCK[i + 1]], corner[BLOCK[i + 2]])) {
                return true;
            }
        }
        return false;
    }

    private static boolean isPlace(int x, int y, int z) {
        return within(x, FARTHEST) && within(y, FARTHEST) && within(z, FARTHEST);
    }

    private static boolean isSide(int from, int length) {
        // Both are looked at before they are added, so the sum can't wrap around.
        return within(from, FARTHEST) && length >= 1 && length <= LONGEST && from + length <= FARTHEST;
    }

    private static boolean within(int value, int limit) {
        return value >= -limit && value <= limit;
    }

    private static int bit(int k, int place) {
        return k >> place & 1;
    }

    /** The points, faces and wires. */
    private static final class Mesh {
        final int[] x = new int[MOST_POINTS];
        final int[] y = new int[MOST_POINTS];
        final int[] z = new int[MOST_POINTS];
        final int[] corners = new int[3 * MOST_FACES];
        final int[] wireEnds = new int[2 * MOST_WIRES];
        int points;
        int faces;
        int wires;

        boolean hasPoint(int n) {
            return n >= 0 && n < points;
        }

        boolean hasFace(int f) {
            return f >= 0 && f < faces;
        }

        int cornerOf(int f, int i) {
            return corners[3 * f + i];
        }

        int pointAt(int px, int py, int pz) {
            for (int n = 0; n < points; n++) {
                if (x[n] == px && y[n] == py && z[n] == pz) {
                    return n;
                }
            }
            return NONE;
        }

        int addPoint(int px, int py, int pz) {
            put(points, px, py, pz);
            points++;
            return points - 1;
        }

        void put(int n, int px, int py, int pz) {
            x[n] = px;
            y[n] = py;
            z[n] = pz;
        }

        int addFace(int p, int q, int r) {
            corners[3 * faces] = p;
            corners[3 * faces + 1] = q;
            corners[3 * faces + 2] = r;
            faces++;
            return faces - 1;
        }

        int addWire(int p, int q) {
            wireEnds[2 * wires] = p;
            wireEnds[2 * wires + 1] = q;
            wires++;
            return wires;
        }

        boolean onLine(int p, int q, int r) {
            return area(y, z, p, q, r) == 0 && area(z, x, p, q, r) == 0 && area(x, y, p, q, r) == 0;
        }

        /** Twice the area of a triangle as it is seen along an axis, u and v being the two others. */
        static int area(int[] u, int[] v, int p, int q, int r) {
            return (u[q] - u[p]) * (v[r] - v[p]) - (v[q] - v[p]) * (u[r] - u[p]);
        }

        boolean hasCorner(int f, int n) {
            return cornerOf(f, 0) == n || cornerOf(f, 1) == n || cornerOf(f, 2) == n;
        }

        /** For three different numbers; a number that is no point's is no face's corner. */
        boolean hasFaceOn(int p, int q, int r) {
            for (int f = 0; f < faces; f++) {
                if (hasCorner(f, p) && hasCorner(f, q) && hasCorner(f, r)) {
                    return true;
                }
            }
            return false;
        }

        /** The first face from a number on that has both corners, or NONE. */
        int faceWith(int p, int q, int from) {
            for (int f = Math.max(from, 0); f < faces; f++) {
                if (hasCorner(f, p) && hasCorner(f, q)) {
                    return f;
                }
            }
            return NONE;
        }

        boolean hasWire(int p, int q) {
            for (int i = 0; i < wires; i++) {
                int a = wireEnds[2 * i];
                int b = wireEnds[2 * i + 1];
                if (a == p && b == q || a == q && b == p) {
                    return true;
                }
            }
            return false;
        }

        boolean turnPoint(int n, int how) {
            int px = x[n];
            int py = y[n];
            int pz = z[n];
            switch (how) {
                case 0:
                    put(n, px, -pz, py);
                    break;
                case 1:
                    put(n, pz, py, -px);
                    break;
                case 2:
                    put(n, -py, px, pz);
                    break;
                default:
                    put(n, px, py, -pz);
                    break;
            }
            return x[n] != px || y[n] != py || z[n] != pz;
        }
    }

    /** What follows from the view: how the points lie to one another and to the faces, seen from the eye. */
    private static final class Sight {
        private static final int SIDES = 4;
        private static final int BEHIND = 3;

        private int a = 0;
        private int b = 0;
        private int c = 1;
        int faces;
        // vol(i, j, d) of two points; the turn of any three points is the sum of three of these.
        private final int[] sweep = new int[MOST_POINTS * MOST_POINTS];
        private final int[] normal = new int[3 * MOST_FACES];
        // The four numbers that decide if a face hides a point, made so that above 0 means hiding;
        // all are 0 for a face that is seen edge-on, since it hides nothing.
        private final int[] margin = new int[SIDES * MOST_FACES * MOST_POINTS];
        final int[] height = new int[MOST_POINTS];
        final int[] swing = new int[MOST_FACES];

        void look(int toX, int toY, int toZ) {
            a = toX;
            b = toY;
            c = toZ;
        }

        void rebuild(Mesh mesh) {
            faces = mesh.faces;
            for (int i = 0; i < mesh.points; i++) {
                height[i] = a * mesh.x[i] + b * mesh.y[i] + c * mesh.z[i];
                for (int j = 0; j < i; j++) {
                    int value = volumeOf(mesh, i, j);
                    sweep[i * MOST_POINTS + j] = value;
                    sweep[j * MOST_POINTS + i] = -value;
                }
                sweep[i * MOST_POINTS + i] = 0;
            }
            for (int f = 0; f < faces; f++) {
                fillNormal(mesh, f);
                swing[f] = turnOf(mesh.cornerOf(f, 0), mesh.cornerOf(f, 1), mesh.cornerOf(f, 2));
                for (int n = 0; n < mesh.points; n++) {
                    fillMargins(mesh, f, n);
                }
            }
        }

        private int volumeOf(Mesh mesh, int i, int j) {
            int[] x = mesh.x;
            int[] y = mesh.y;
            int[] z = mesh.z;
            return a * (y[i] * z[j] - z[i] * y[j])
                + b * (z[i] * x[j] - x[i] * z[j])
                + c * (x[i] * y[j] - y[i] * x[j]);
        }

        private void fillNormal(Mesh mesh, int f) {
            int p = mesh.cornerOf(f, 0);
            int q = mesh.cornerOf(f, 1);
            int r = mesh.cornerOf(f, 2);
            normal[3 * f] = Mesh.area(mesh.y, mesh.z, p, q, r);
            normal[3 * f + 1] = Mesh.area(mesh.z, mesh.x, p, q, r);
            normal[3 * f + 2] = Mesh.area(mesh.x, mesh.y, p, q, r);
        }

        private void fillMargins(Mesh mesh, int f, int n) {
            int sign = swing[f] > 0 ? 1 : swing[f] < 0 ? -1 : 0;
            int p = mesh.cornerOf(f, 0);
            int q = mesh.cornerOf(f, 1);
            int r = mesh.cornerOf(f, 2);
            int row = rowOf(f, n);
            margin[row] = sign * turnOf(p, q, n);
            margin[row + 1] = sign * turnOf(q, r, n);
            margin[row + 2] = sign * turnOf(r, p, n);
            margin[row + BEHIND] = sign * depth(mesh, f, n);
        }

        /** vol(j - i, k - i, d) of three points. */
        int turnOf(int i, int j, int k) {
            return sweep[i * MOST_POINTS + j] + sweep[j * MOST_POINTS + k] + sweep[k * MOST_POINTS + i];
        }

        /** vol(Q - P, R - P, P - X) of a face and a point X: 0 if X lies in the face's plane. */
        int depth(Mesh mesh, int f, int n) {
            int p = mesh.cornerOf(f, 0);
            return normal[3 * f] * (mesh.x[p] - mesh.x[n])
                + normal[3 * f + 1] * (mesh.y[p] - mesh.y[n])
                + normal[3 * f + 2] * (mesh.z[p] - mesh.z[n]);
        }

        /** Where the four margins of a face and a point begin. */
        private static int rowOf(int f, int n) {
            return SIDES * (f * MOST_POINTS + n);
        }

        int countToEye() {
            int found = 0;
            for (int f = 0; f < faces; f++) {
                if (swing[f] > 0) {
                    found++;
                }
            }
            return found;
        }

        /** By how many faces the place up / down of the way from one point to another is hidden. */
        int countHiding(int from, int to, int up, int down) {
            int found = 0;
            for (int f = 0; f < faces; f++) {
                int first = rowOf(f, from);
                int last = rowOf(f, to);
                boolean hides = true;
                for (int side = 0; side < SIDES && hides; side++) {
                    hides = margin[first + side] * (down - up) + margin[last + side] * up > 0;
                }
                if (hides) {
                    found++;
                }
            }
            return found;
        }

        /** Where the stretch of an edge by a face begins; there is one only if that is less than its end. */
        long stretchBegin(int low, int high, int f) {
            int first = rowOf(f, low);
            int last = rowOf(f, high);
            long begin = Fractions.ZERO;
            for (int side = 0; side < SIDES; side++) {
                int m = margin[first + side];
                int n = margin[last + side];
                if (m <= 0 && n > 0) {
                    long bound = Fractions.of(-m, n - m);
                    begin = Fractions.less(begin, bound) ? bound : begin;
                }
            }
            return Fractions.lowest(begin);
        }

        /** Where the stretch of an edge by a face ends, or 0 if one of the four conditions holds nowhere. */
        long stretchEnd(int low, int high, int f) {
            int first = rowOf(f, low);
            int last = rowOf(f, high);
            long end = Fractions.ONE;
            for (int side = 0; side < SIDES; side++) {
                int m = margin[first + side];
                int n = margin[last + side];
                if (m <= 0 && n <= 0) {
                    return Fractions.ZERO;
                }
                if (n <= 0) {
                    long bound = Fractions.of(m, m - n);
                    end = Fractions.less(bound, end) ? bound : end;
                }
            }
            return Fractions.lowest(end);
        }
    }

    /** The edges in the order of their numbers. */
    private static final class Edges {
        private final int[] number = new int[MOST_POINTS * MOST_POINTS];
        private final int[] shared = new int[MOST_POINTS * MOST_POINTS];
        final int[] low = new int[MOST_EDGES];
        final int[] high = new int[MOST_EDGES];
        final int[] sharing = new int[MOST_EDGES];
        final int[] sort = new int[MOST_EDGES];
        int count;

        boolean has(int e) {
            return e >= 0 && e < count;
        }

        /** The edge between two points, or NONE. */
        int between(int p, int q) {
            return number[p * MOST_POINTS + q];
        }

        int countAt(int n) {
            int found = 0;
            for (int e = 0; e < count; e++) {
                if (low[e] == n || high[e] == n) {
                    found++;
                }
            }
            return found;
        }

        int countSort(int wanted) {
            int found = 0;
            for (int e = 0; e < count; e++) {
                if (sort[e] == wanted) {
                    found++;
                }
            }
            return found;
        }

        void rebuild(Mesh mesh, Sight sight) {
            Arrays.fill(number, NONE);
            Arrays.fill(shared, 0);
            for (int f = 0; f < mesh.faces; f++) {
                share(mesh.cornerOf(f, 0), mesh.cornerOf(f, 1));
                share(mesh.cornerOf(f, 1), mesh.cornerOf(f, 2));
                share(mesh.cornerOf(f, 2), mesh.cornerOf(f, 0));
            }
            count = 0;
            for (int p = 0; p < mesh.points; p++) {
                for (int q = p + 1; q < mesh.points; q++) {
                    if (count < MOST_EDGES && (shared[p * MOST_POINTS + q] > 0 || mesh.hasWire(p, q))) {
                        append(p, q);
                    }
                }
            }
            for (int e = 0; e < count; e++) {
                sort[e] = sortOf(mesh, sight, e);
            }
        }

        private void share(int p, int q) {
            shared[Math.min(p, q) * MOST_POINTS + Math.max(p, q)]++;
        }

        private void append(int p, int q) {
            number[p * MOST_POINTS + q] = count;
            number[q * MOST_POINTS + p] = count;
            low[count] = p;
            high[count] = q;
            sharing[count] = shared[p * MOST_POINTS + q];
            count++;
        }

        private int sortOf(Mesh mesh, Sight sight, int e) {
            if (sharing[e] == 0) {
                return SORT_WIRE;
            }
            int f = mesh.faceWith(low[e], high[e], 0);
            int g = mesh.faceWith(low[e], high[e], f + 1);
            if (f < 0 || g < 0) {
                return SORT_BORDER;
            }
            if (sharing[e] > 2) {
                return SORT_MANY;
            }
            if (inOnePlane(mesh, sight, f, g)) {
                return SORT_FLAT;
            }
            return sight.swing[f] > 0 != sight.swing[g] > 0 ? SORT_OUTLINE : SORT_FOLD;
        }

        private static boolean inOnePlane(Mesh mesh, Sight sight, int f, int g) {
            for (int i = 0; i < 3; i++) {
                if (sight.depth(mesh, f, mesh.cornerOf(g, i)) != 0) {
                    return false;
                }
            }
            return true;
        }
    }

    /** The cuts and pieces of one edge; the last edge asked for is kept, since calls often ask for it again. */
    private static final class Cuts {
        private final long[] begin = new long[MOST_FACES];
        private final long[] end = new long[MOST_FACES];
        private int stretches;
        private int loaded = NONE;
        private int count;
        final long[] at = new long[MOST_CUTS];
        final int[] quantity = new int[MOST_CUTS];
        // Bit k stands for piece k: there are fewer than 64.
        long visible;

        void unload() {
            loaded = NONE;
        }

        int pieceCount() {
            return count - 1;
        }

        void load(int e, Edges edges, Sight sight) {
            if (loaded == e) {
                return;
            }
            at[0] = Fractions.ZERO;
            at[1] = Fractions.ONE;
            count = 2;
            stretches = 0;
            for (int f = 0; f < sight.faces; f++) {
                addStretch(sight, edges.low[e], edges.high[e], f);
            }
            countQuantities();
            visible = edges.sort[e] == SORT_FLAT ? 0L : bare();
            loaded = e;
        }

        private void addStretch(Sight sight, int low, int high, int f) {
            // Most faces hide nothing of an edge, and the end alone tells that of most of these.
            long last = sight.stretchEnd(low, high, f);
            if (last == Fractions.ZERO) {
                return;
            }
            long start = sight.stretchBegin(low, high, f);
            if (Fractions.less(start, last)) {
                begin[stretches] = start;
                end[stretches] = last;
                stretches++;
                insert(start);
                insert(last);
            }
        }

        // Fractions in lowest terms are equal only if they are the same number, here and below.
        private void insert(long cut) {
            int place = 0;
            while (place < count && Fractions.less(at[place], cut)) {
                place++;
            }
            if (place < count && at[place] == cut || count >= MOST_CUTS) {
                return;
            }
            for (int k = count; k > place; k--) {
                at[k] = at[k - 1];
            }
            at[place] = cut;
            count++;
        }

        private void countQuantities() {
            Arrays.fill(quantity, 0);
            for (int i = 0; i < stretches; i++) {
                boolean inside = false;
                for (int k = 0; k < count - 1; k++) {
                    inside = at[k] == begin[i] || inside && at[k] != end[i];
                    if (inside) {
                        quantity[k]++;
                    }
                }
            }
        }

        private long bare() {
            long mask = 0L;
            for (int k = 0; k < count - 1; k++) {
                if (quantity[k] == 0) {
                    mask |= 1L << k;
                }
            }
            return mask;
        }
    }

    /** What strokes and counts need to know of the pieces of all edges. */
    private static final class Pieces {
        final int[] count = new int[MOST_EDGES];
        final long[] visible = new long[MOST_EDGES];
        int all;
        int allVisible;
        int greatest;

        void rebuild(Edges edges, Cuts cuts, Sight sight) {
            all = 0;
            allVisible = 0;
            greatest = 0;
            for (int e = 0; e < edges.count; e++) {
                cuts.load(e, edges, sight);
                count[e] = cuts.pieceCount();
                visible[e] = cuts.visible;
                all += count[e];
                allVisible += Long.bitCount(visible[e]);
                for (int k = 0; k < count[e]; k++) {
                    greatest = Math.max(greatest, cuts.quantity[k]);
                }
            }
        }
    }

    /** The pen strokes: one row of steps, and where in it each stroke begins. */
    private static final class Strokes {
        private final long[] left = new long[MOST_EDGES];
        private int steps;
        final int[] step = new int[MOST_VISIBLE];
        final int[] first = new int[MOST_VISIBLE];
        int count;

        static int stepOf(int e, int k, boolean forward) {
            return e << 7 | k << 1 | (forward ? 1 : 0);
        }

        static int edgeOf(int step) {
            return step >> 7;
        }

        static int pieceOf(int step) {
            return step >> 1 & 63;
        }

        static boolean isForward(int step) {
            return (step & 1) == 1;
        }

        boolean has(int k) {
            return k >= 0 && k < count;
        }

        int length(int k) {
            return (k + 1 < count ? first[k + 1] : steps) - first[k];
        }

        int startPoint(int k, Edges edges) {
            // The first step is always drawn from its lesser t on, which is a point only at t = 0.
            int start = step[first[k]];
            return pieceOf(start) == 0 ? edges.low[edgeOf(start)] : NONE;
        }

        int endPoint(int k, Edges edges, Pieces pieces) {
            return pointBehind(step[first[k] + length(k) - 1], edges, pieces);
        }

        /** The point at which a step ends, or NONE. */
        private static int pointBehind(int step, Edges edges, Pieces pieces) {
            int e = edgeOf(step);
            int k = pieceOf(step);
            if (isForward(step)) {
                return k == pieces.count[e] - 1 ? edges.high[e] : NONE;
            }
            return k == 0 ? edges.low[e] : NONE;
        }

        void rebuild(Edges edges, Pieces pieces) {
            count = 0;
            steps = 0;
            for (int e = 0; e < edges.count; e++) {
                left[e] = pieces.visible[e];
            }
            for (int e = 0; e < edges.count; e++) {
                for (int k = 0; k < pieces.count[e]; k++) {
                    if (isLeft(e, k) && count < MOST_VISIBLE) {
                        first[count] = steps;
                        count++;
                        draw(stepOf(e, k, true), edges, pieces);
                    }
                }
            }
        }

        private boolean isLeft(int e, int k) {
            return (left[e] >> k & 1L) == 1L;
        }

        private void draw(int start, Edges edges, Pieces pieces) {
            int next = start;
            while (next != NONE && steps < MOST_VISIBLE) {
                step[steps] = next;
                steps++;
                left[edgeOf(next)] &= ~(1L << pieceOf(next));
                next = stepFrom(pointBehind(next, edges, pieces), edges, pieces);
            }
        }

        /** The step that goes on from a point, or NONE. */
        private int stepFrom(int n, Edges edges, Pieces pieces) {
            if (n == NONE) {
                return NONE;
            }
            for (int e = 0; e < edges.count; e++) {
                int last = pieces.count[e] - 1;
                if (edges.low[e] == n && isLeft(e, 0)) {
                    return stepOf(e, 0, true);
                }
                if (edges.high[e] == n && isLeft(e, last)) {
                    return stepOf(e, last, false);
                }
            }
            return NONE;
        }
    }

    /** Where two edges cross in the view. */
    private static final class Meeting {
        int upOnFirst;
        int upOnSecond;
        int down;
        // Above 0 if the first edge is the nearer one, below 0 if the second one is.
        int lead;

        /** Says if two edges cross; edges with a point in common don't, as one of the turns is 0 then. */
        boolean find(int e, int g, Edges edges, Sight sight) {
            int a = edges.low[e];
            int b = edges.high[e];
            int c = edges.low[g];
            int d = edges.high[g];
            int turnA = sight.turnOf(c, d, a);
            int turnB = sight.turnOf(c, d, b);
            if (!areOpposite(turnA, turnB)) {
                return false;
            }
            int turnC = sight.turnOf(a, b, c);
            int turnD = sight.turnOf(a, b, d);
            if (!areOpposite(turnC, turnD)) {
                return false;
            }
            upOnFirst = Math.abs(turnA);
            upOnSecond = Math.abs(turnC);
            // turnA - turnB and turnD - turnC are both vol(u, w, d), so one denominator serves both edges.
            down = Math.abs(turnA - turnB);
            lead = sight.height[a] * (down - upOnFirst) + sight.height[b] * upOnFirst
                - sight.height[c] * (down - upOnSecond) - sight.height[d] * upOnSecond;
            return true;
        }

        int countAll(Edges edges, Sight sight) {
            int found = 0;
            for (int e = 0; e < edges.count; e++) {
                for (int g = e + 1; g < edges.count; g++) {
                    if (find(e, g, edges, sight)) {
                        found++;
                    }
                }
            }
            return found;
        }

        private static boolean areOpposite(int m, int n) {
            return m > 0 && n < 0 || m < 0 && n > 0;
        }
    }

    /** Fractions from 0 to 1, each in one long, so that none of them is an object: 32 bits a part. */
    private static final class Fractions {
        static final long ZERO = 1L;
        static final long ONE = 1L << 32 | 1L;

        static long of(int up, int down) {
            return (long) up << 32 | down;
        }

        /** The numerator for 0, the denominator for 1. */
        static int part(long fraction, int which) {
            return which == 0 ? (int) (fraction >> 32) : (int) fraction;
        }

        static boolean less(long one, long other) {
            return (one >> 32) * (int) other < (other >> 32) * (int) one;
        }

        static long lowest(long fraction) {
            int up = (int) (fraction >> 32);
            int down = (int) fraction;
            int divisor = down;
            int rest = up;
            // Euclid's steps halve the numbers at least every second time, so 64 are enough.
            for (int i = 0; i < 64 && rest != 0; i++) {
                int next = divisor % rest;
                divisor = rest;
                rest = next;
            }
            return divisor > 1 ? (long) (up / divisor) << 32 | down / divisor : fraction;
        }
    }
}
