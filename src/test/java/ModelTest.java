import java.util.ArrayList;
import java.util.Arrays;
import java.util.List;
import java.util.Random;
import java.util.TreeSet;

/**
 * Runs of calls, drawn from fixed seeds, on the class and on a model beside it that follows the
 * document's words one by one, with rational numbers and without any table or short cut.
 */
public final class ModelTest {
  private static final int U = -1, O = -2, S = -3, F = -4, N = -9;

  /** A rational number in lowest terms with a denominator above 0. */
  private record Q(long up, long down) implements Comparable<Q> {
    static Q of(long up, long down) {
      if (down < 0) {
        return of(-up, -down);
      }
      long a = Math.abs(up);
      long b = down;
      while (a != 0) {
        long rest = b % a;
        b = a;
        a = rest;
      }
      return new Q(up / b, down / b);
    }

    static Q of(long whole) {
      return new Q(whole, 1);
    }

    Q plus(Q o) {
      return of(up * o.down + o.up * down, down * o.down);
    }

    Q minus(Q o) {
      return of(up * o.down - o.up * down, down * o.down);
    }

    Q times(Q o) {
      return of(up * o.up, down * o.down);
    }

    Q over(Q o) {
      return of(up * o.down, down * o.up);
    }

    int sign() {
      return Long.signum(up);
    }

    @Override
    public int compareTo(Q o) {
      return minus(o).sign();
    }
  }

  private record Vec(Q x, Q y, Q z) {
    static Vec of(int x, int y, int z) {
      return new Vec(Q.of(x), Q.of(y), Q.of(z));
    }

    Vec plus(Vec o) {
      return new Vec(x.plus(o.x), y.plus(o.y), z.plus(o.z));
    }

    Vec minus(Vec o) {
      return new Vec(x.minus(o.x), y.minus(o.y), z.minus(o.z));
    }

    Vec times(Q t) {
      return new Vec(x.times(t), y.times(t), z.times(t));
    }
  }

  private static Q vol(Vec u, Vec v, Vec w) {
    return u.x.times(v.y.times(w.z).minus(v.z.times(w.y)))
        .plus(u.y.times(v.z.times(w.x).minus(v.x.times(w.z))))
        .plus(u.z.times(v.x.times(w.y).minus(v.y.times(w.x))));
  }

  private record Piece(int edge, int number, Q from, Q to, int quantity, boolean last) {
  }

  private record Drawn(Piece piece, boolean forward) {
  }

  private static final class Model {
    final List<int[]> points = new ArrayList<>();
    final List<int[]> faces = new ArrayList<>();
    final List<int[]> wires = new ArrayList<>();
    int[] d = {0, 0, 1};
    List<int[]> edges;
    List<List<Piece>> pieces;
    List<List<Drawn>> strokes;

    void forget() {
      edges = null;
      pieces = null;
      strokes = null;
    }

    static boolean in(int value, int from, int to) {
      return value >= from && value <= to;
    }

    boolean isPoint(int n) {
      return in(n, 0, points.size() - 1);
    }

    static boolean isPlace(int x, int y, int z) {
      return in(x, -9, 9) && in(y, -9, 9) && in(z, -9, 9);
    }

    int at(int x, int y, int z) {
      for (int n = 0; n < points.size(); n++) {
        if (Arrays.equals(points.get(n), new int[] {x, y, z})) {
          return n;
        }
      }
      return -1;
    }

    int point(int x, int y, int z) {
      if (!isPlace(x, y, z)) {
        return O;
      }
      if (at(x, y, z) >= 0) {
        return S;
      }
      if (points.size() == 16) {
        return F;
      }
      forget();
      points.add(new int[] {x, y, z});
      return points.size() - 1;
    }

    Vec place(int n) {
      return Vec.of(points.get(n)[0], points.get(n)[1], points.get(n)[2]);
    }

    Vec eye() {
      return Vec.of(d[0], d[1], d[2]);
    }

    boolean hasFace(int p, int q, int r) {
      TreeSet<Integer> wanted = new TreeSet<>(List.of(p, q, r));
      for (int[] f : faces) {
        if (wanted.equals(new TreeSet<>(List.of(f[0], f[1], f[2])))) {
          return true;
        }
      }
      return false;
    }

    boolean straight(int p, int q, int r) {
      // The three lie on a line just if no direction spans a volume with their differences.
      for (Vec axis : List.of(Vec.of(1, 0, 0), Vec.of(0, 1, 0), Vec.of(0, 0, 1))) {
        if (vol(place(q).minus(place(p)), place(r).minus(place(p)), axis).sign() != 0) {
          return false;
        }
      }
      return true;
    }

    int face(int p, int q, int r) {
      if (!isPoint(p) || !isPoint(q) || !isPoint(r)) {
        return U;
      }
      if (straight(p, q, r) || hasFace(p, q, r)) {
        return S;
      }
      if (faces.size() == 24) {
        return F;
      }
      forget();
      faces.add(new int[] {p, q, r});
      return faces.size() - 1;
    }

    boolean hasWire(int p, int q) {
      for (int[] w : wires) {
        if (w[0] == p && w[1] == q || w[0] == q && w[1] == p) {
          return true;
        }
      }
      return false;
    }

    int wire(int p, int q) {
      if (!isPoint(p) || !isPoint(q)) {
        return U;
      }
      if (p == q || hasWire(p, q)) {
        return S;
      }
      if (wires.size() == 8) {
        return F;
      }
      forget();
      wires.add(new int[] {p, q});
      return wires.size();
    }

    int block(int x, int y, int z, int w, int h, int t) {
      if (!in(w, 1, 9) || !in(h, 1, 9) || !in(t, 1, 9)) {
        return O;
      }
      if (!isPlace(x, y, z) || !isPlace(x + w, y + h, z + t)) {
        return O;
      }
      int[][] corner = new int[8][];
      int missing = 0;
      for (int k = 0; k < 8; k++) {
        corner[k] = new int[] {
          (k & 1) != 0 ? x + w : x, (k & 2) != 0 ? y + h : y, (k & 4) != 0 ? z + t : z};
        if (at(corner[k][0], corner[k][1], corner[k][2]) < 0) {
          missing++;
        }
      }
      String[] names = "023 031 457 476 015 054 267 273 046 062 137 175".split(" ");
      for (String name : names) {
        int[] n = new int[3];
        for (int i = 0; i < 3; i++) {
          int[] c = corner[name.charAt(i) - '0'];
          n[i] = at(c[0], c[1], c[2]);
        }
        if (n[0] >= 0 && n[1] >= 0 && n[2] >= 0 && hasFace(n[0], n[1], n[2])) {
          return S;
        }
      }
      if (points.size() + missing > 16 || faces.size() + 12 > 24) {
        return F;
      }
      forget();
      for (int[] c : corner) {
        if (at(c[0], c[1], c[2]) < 0) {
          points.add(c);
        }
      }
      for (String name : names) {
        int[] n = new int[3];
        for (int i = 0; i < 3; i++) {
          int[] c = corner[name.charAt(i) - '0'];
          n[i] = at(c[0], c[1], c[2]);
        }
        faces.add(n);
      }
      return missing;
    }

    int cut() {
      if (faces.isEmpty()) {
        return S;
      }
      forget();
      faces.remove(faces.size() - 1);
      return faces.size();
    }

    int clear() {
      int before = faces.size();
      forget();
      points.clear();
      faces.clear();
      wires.clear();
      return before;
    }

    int view(int a, int b, int c) {
      if (!in(a, -3, 3) || !in(b, -3, 3) || !in(c, -3, 3) || a == 0 && b == 0 && c == 0) {
        return O;
      }
      forget();
      d = new int[] {a, b, c};
      return 1;
    }

    int turn(int how) {
      if (!in(how, 0, 3)) {
        return O;
      }
      forget();
      int moved = 0;
      for (int n = 0; n < points.size(); n++) {
        int[] p = points.get(n);
        int[] to = p.clone();
        if (how == 0) {
          to[1] = -p[2];
          to[2] = p[1];
        } else if (how == 1) {
          to[0] = p[2];
          to[2] = -p[0];
        } else if (how == 2) {
          to[0] = -p[1];
          to[1] = p[0];
        } else {
          to[2] = -p[2];
        }
        if (!Arrays.equals(p, to)) {
          moved++;
        }
        points.set(n, to);
      }
      return moved;
    }

    int move(int x, int y, int z) {
      if (!in(x, -18, 18) || !in(y, -18, 18) || !in(z, -18, 18)) {
        return O;
      }
      for (int[] p : points) {
        if (!isPlace(p[0] + x, p[1] + y, p[2] + z)) {
          return S;
        }
      }
      forget();
      points.replaceAll(p -> new int[] {p[0] + x, p[1] + y, p[2] + z});
      return 1;
    }

    static boolean has(int[] f, int n) {
      return f[0] == n || f[1] == n || f[2] == n;
    }

    List<int[]> facesWith(int p, int q) {
      return faces.stream().filter(f -> has(f, p) && has(f, q)).toList();
    }

    List<int[]> edges() {
      if (edges != null) {
        return edges;
      }
      edges = new ArrayList<>();
      for (int p = 0; p < points.size(); p++) {
        for (int q = p + 1; q < points.size(); q++) {
          if (!facesWith(p, q).isEmpty() || hasWire(p, q)) {
            edges.add(new int[] {p, q});
          }
        }
      }
      return edges;
    }

    Q turnOf(int[] f) {
      return vol(place(f[1]).minus(place(f[0])), place(f[2]).minus(place(f[0])), eye());
    }

    Q[] conditions(int[] f, Vec x) {
      Vec p = place(f[0]);
      Vec q = place(f[1]);
      Vec r = place(f[2]);
      return new Q[] {
        vol(q.minus(p), x.minus(p), eye()),
        vol(r.minus(q), x.minus(q), eye()),
        vol(p.minus(r), x.minus(r), eye()),
        vol(q.minus(p), r.minus(p), p.minus(x))};
    }

    boolean hides(int[] f, Vec x) {
      int sign = turnOf(f).sign();
      for (Q value : conditions(f, x)) {
        if (value.sign() != sign) {
          return false;
        }
      }
      return sign != 0;
    }

    int countHiding(Vec x) {
      return (int) faces.stream().filter(f -> hides(f, x)).count();
    }

    Vec on(int[] e, Q t) {
      return place(e[0]).plus(place(e[1]).minus(place(e[0])).times(t));
    }

    /** The beginning and the end, or null: tried out between all t at which a condition changes. */
    Q[] stretchOf(int[] e, int[] f) {
      TreeSet<Q> tries = new TreeSet<>(List.of(Q.of(0), Q.of(1)));
      Q[] m = conditions(f, place(e[0]));
      Q[] n = conditions(f, place(e[1]));
      for (int i = 0; i < 4; i++) {
        if (m[i].compareTo(n[i]) != 0) {
          Q t = m[i].over(m[i].minus(n[i]));
          if (t.sign() >= 0 && t.compareTo(Q.of(1)) <= 0) {
            tries.add(t);
          }
        }
      }
      Q begin = null;
      Q end = null;
      Q before = null;
      for (Q t : tries) {
        if (before != null && hides(f, on(e, before.plus(t).over(Q.of(2))))) {
          begin = begin == null ? before : begin;
          end = t;
        }
        before = t;
      }
      return begin == null ? null : new Q[] {begin, end};
    }

    int sortOf(int[] e) {
      List<int[]> both = facesWith(e[0], e[1]);
      if (both.size() < 2) {
        return both.size();
      }
      if (both.size() > 2) {
        return 5;
      }
      int[] f = both.get(0);
      int[] g = both.get(1);
      boolean flat = true;
      for (int n : g) {
        flat &= conditions(f, place(n))[3].sign() == 0;
      }
      if (flat) {
        return 2;
      }
      int toEye = (turnOf(f).sign() > 0 ? 1 : 0) + (turnOf(g).sign() > 0 ? 1 : 0);
      return toEye == 1 ? 3 : 4;
    }

    List<List<Piece>> pieces() {
      if (pieces == null) {
        pieces = new ArrayList<>();
        List<int[]> edges = edges();
        for (int e = 0; e < edges.size(); e++) {
          pieces.add(piecesOf(e, edges.get(e)));
        }
      }
      return pieces;
    }

    List<Piece> piecesOf(int number, int[] e) {
      TreeSet<Q> cuts = new TreeSet<>(List.of(Q.of(0), Q.of(1)));
      for (int[] f : faces) {
        Q[] s = stretchOf(e, f);
        if (s != null) {
          cuts.add(s[0]);
          cuts.add(s[1]);
        }
      }
      List<Q> row = new ArrayList<>(cuts);
      List<Piece> all = new ArrayList<>();
      for (int k = 0; k + 1 < row.size(); k++) {
        Q middle = row.get(k).plus(row.get(k + 1)).over(Q.of(2));
        all.add(new Piece(number, k, row.get(k), row.get(k + 1), countHiding(on(e, middle)),
            k + 2 == row.size()));
      }
      return all;
    }

    List<Piece> visible() {
      List<int[]> edges = edges();
      List<Piece> all = new ArrayList<>();
      for (List<Piece> of : pieces()) {
        for (Piece p : of) {
          if (p.quantity == 0 && sortOf(edges.get(p.edge)) != 2) {
            all.add(p);
          }
        }
      }
      return all;
    }

    int pointAtEnd(Piece p, boolean greater) {
      int[] e = edges().get(p.edge);
      if (greater) {
        return p.to.equals(Q.of(1)) ? e[1] : N;
      }
      return p.from.equals(Q.of(0)) ? e[0] : N;
    }

    List<List<Drawn>> strokes() {
      if (strokes != null) {
        return strokes;
      }
      strokes = new ArrayList<>();
      List<Piece> left = visible();
      while (!left.isEmpty()) {
        List<Drawn> row = new ArrayList<>();
        Drawn next = new Drawn(left.remove(0), true);
        while (next != null) {
          row.add(next);
          int at = pointAtEnd(next.piece, next.forward);
          next = null;
          for (int i = 0; i < left.size() && next == null && at != N; i++) {
            if (pointAtEnd(left.get(i), false) == at) {
              next = new Drawn(left.remove(i), true);
            } else if (pointAtEnd(left.get(i), true) == at) {
              next = new Drawn(left.remove(i), false);
            }
          }
        }
        strokes.add(row);
      }
      return strokes;
    }

    int ofPoint(int n, int what) {
      if (!isPoint(n)) {
        return U;
      }
      return switch (what) {
        case 0, 1, 2 -> points.get(n)[what] + 10;
        case 3 -> countHiding(place(n));
        case 4 -> (int) edges().stream().filter(e -> e[0] == n || e[1] == n).count();
        default -> O;
      };
    }

    int ofFace(int f, int what) {
      if (!in(f, 0, faces.size() - 1)) {
        return U;
      }
      Q turn = turnOf(faces.get(f));
      return switch (what) {
        case 0, 1, 2 -> faces.get(f)[what];
        case 3 -> turn.sign() > 0 ? 1 : turn.sign() < 0 ? 2 : 0;
        case 4 -> (int) Math.abs(turn.up);
        default -> O;
      };
    }

    int ofEdge(int e, int what) {
      List<int[]> edges = edges();
      if (!in(e, 0, edges.size() - 1)) {
        return U;
      }
      int[] pair = edges.get(e);
      return switch (what) {
        case 0, 1 -> pair[what];
        case 2 -> facesWith(pair[0], pair[1]).size();
        case 3 -> sortOf(pair);
        case 4 -> pieces().get(e).size();
        case 5 -> (int) visible().stream().filter(p -> p.edge == e).count();
        case 6 -> hasWire(pair[0], pair[1]) ? 1 : 0;
        default -> O;
      };
    }

    int edge(int p, int q) {
      if (!isPoint(p) || !isPoint(q)) {
        return U;
      }
      List<int[]> edges = edges();
      for (int e = 0; e < edges.size(); e++) {
        if (edges.get(e)[0] == Math.min(p, q) && edges.get(e)[1] == Math.max(p, q)) {
          return e;
        }
      }
      return N;
    }

    int stretch(int e, int f, int which) {
      List<int[]> edges = edges();
      if (!in(e, 0, edges.size() - 1) || !in(f, 0, faces.size() - 1)) {
        return U;
      }
      if (!in(which, 0, 3)) {
        return O;
      }
      Q[] s = stretchOf(edges.get(e), faces.get(f));
      if (s == null) {
        return N;
      }
      return (int) (which % 2 == 0 ? s[which / 2].up : s[which / 2].down);
    }

    int hidden(int e, int up, int down) {
      List<int[]> edges = edges();
      if (!in(e, 0, edges.size() - 1)) {
        return U;
      }
      if (!in(down, 1, 1000) || !in(up, 0, down)) {
        return O;
      }
      return countHiding(on(edges.get(e), Q.of(up, down)));
    }

    int piece(int e, int k, int what) {
      if (!in(e, 0, edges().size() - 1) || !in(k, 0, pieces().get(e).size() - 1)) {
        return U;
      }
      Piece p = pieces().get(e).get(k);
      return switch (what) {
        case 0 -> (int) p.from.up;
        case 1 -> (int) p.from.down;
        case 2 -> (int) p.to.up;
        case 3 -> (int) p.to.down;
        case 4 -> p.quantity;
        default -> O;
      };
    }

    /** t, s and the multiple of d from the place on g to the place on e, or null. */
    Q[] crossOf(int[] e, int[] g) {
      if (e[0] == g[0] || e[0] == g[1] || e[1] == g[0] || e[1] == g[1]) {
        return null;
      }
      Vec u = place(e[1]).minus(place(e[0]));
      Vec w = place(g[1]).minus(place(g[0]));
      Q base = vol(u, w, eye());
      if (base.sign() == 0) {
        return null;
      }
      Vec gap = place(g[0]).minus(place(e[0]));
      Q t = vol(gap, w, eye()).over(base);
      Q s = vol(gap, u, eye()).over(base);
      if (t.sign() <= 0 || t.compareTo(Q.of(1)) >= 0 || s.sign() <= 0 || s.compareTo(Q.of(1)) >= 0) {
        return null;
      }
      Vec rest = on(e, t).minus(on(g, s));
      Q multiple = d[0] != 0 ? rest.x.over(Q.of(d[0]))
          : d[1] != 0 ? rest.y.over(Q.of(d[1])) : rest.z.over(Q.of(d[2]));
      if (!rest.equals(eye().times(multiple))) {
        throw new IllegalStateException("the model's places don't lie on one line of sight");
      }
      return new Q[] {t, s, multiple};
    }

    int crossing(int e, int g, int which) {
      List<int[]> edges = edges();
      if (!in(e, 0, edges.size() - 1) || !in(g, 0, edges.size() - 1)) {
        return U;
      }
      if (!in(which, 0, 4)) {
        return O;
      }
      if (e == g) {
        return S;
      }
      Q[] cross = crossOf(edges.get(e), edges.get(g));
      if (cross == null) {
        return N;
      }
      if (which == 4) {
        return cross[2].sign() > 0 ? e : cross[2].sign() < 0 ? g : N;
      }
      return (int) (which % 2 == 0 ? cross[which / 2].up : cross[which / 2].down);
    }

    int stroke(int k, int what) {
      if (!in(k, 0, strokes().size() - 1)) {
        return U;
      }
      List<Drawn> row = strokes().get(k);
      Drawn first = row.get(0);
      Drawn last = row.get(row.size() - 1);
      return switch (what) {
        case 0 -> row.size();
        case 1 -> pointAtEnd(first.piece, !first.forward);
        case 2 -> pointAtEnd(last.piece, last.forward);
        default -> O;
      };
    }

    int strokePiece(int k, int i, int what) {
      if (!in(k, 0, strokes().size() - 1) || !in(i, 0, strokes().get(k).size() - 1)) {
        return U;
      }
      Drawn drawn = strokes().get(k).get(i);
      return switch (what) {
        case 0 -> drawn.piece.edge;
        case 1 -> drawn.piece.number;
        case 2 -> drawn.forward ? 1 : 0;
        default -> O;
      };
    }

    int many(int what) {
      List<int[]> edges = edges();
      return switch (what) {
        case 0 -> points.size();
        case 1 -> faces.size();
        case 2 -> wires.size();
        case 3 -> edges.size();
        case 4 -> pieces().stream().mapToInt(List::size).sum();
        case 5 -> visible().size();
        case 6 -> (int) edges.stream().filter(e -> sortOf(e) == 2).count();
        case 7 -> (int) edges.stream().filter(e -> sortOf(e) == 3).count();
        case 8 -> strokes().size();
        case 9 -> (int) faces.stream().filter(f -> turnOf(f).sign() > 0).count();
        case 10 -> crossings(edges);
        case 11 -> pieces().stream().flatMap(List::stream).mapToInt(Piece::quantity).max().orElse(0);
        default -> O;
      };
    }

    int crossings(List<int[]> edges) {
      int found = 0;
      for (int e = 0; e < edges.size(); e++) {
        for (int g = 0; g < e; g++) {
          found += crossOf(edges.get(e), edges.get(g)) != null ? 1 : 0;
        }
      }
      return found;
    }
  }

  private static final String[] NAMES = {
    "point", "face", "wire", "block", "cut", "clear", "view", "turn", "move", "ofPoint", "ofFace",
    "ofEdge", "edge", "stretch", "hidden", "piece", "crossing", "stroke", "strokePiece", "many"};
  // How often each of them is drawn while a scene grows, and while it is asked.
  private static final int[] GROW = {40, 45, 10, 3, 1, 0, 1, 1, 1, 0, 0, 0, 0, 0, 0, 0, 0, 0, 0, 0};
  private static final int[] ASK = {2, 4, 2, 2, 2, 1, 6, 4, 4, 8, 6, 10, 4, 16, 12, 20, 16, 10, 14, 12};

  private static int call(HiddenEdges x, int m, int[] a) {
    return switch (m) {
      case 0 -> x.point(a[0], a[1], a[2]);
      case 1 -> x.face(a[0], a[1], a[2]);
      case 2 -> x.wire(a[0], a[1]);
      case 3 -> x.block(a[0], a[1], a[2], a[3], a[4], a[5]);
      case 4 -> x.cut();
      case 5 -> x.clear();
      case 6 -> x.view(a[0], a[1], a[2]);
      case 7 -> x.turn(a[0]);
      case 8 -> x.move(a[0], a[1], a[2]);
      case 9 -> x.ofPoint(a[0], a[1]);
      case 10 -> x.ofFace(a[0], a[1]);
      case 11 -> x.ofEdge(a[0], a[1]);
      case 12 -> x.edge(a[0], a[1]);
      case 13 -> x.stretch(a[0], a[1], a[2]);
      case 14 -> x.hidden(a[0], a[1], a[2]);
      case 15 -> x.piece(a[0], a[1], a[2]);
      case 16 -> x.crossing(a[0], a[1], a[2]);
      case 17 -> x.stroke(a[0], a[1]);
      case 18 -> x.strokePiece(a[0], a[1], a[2]);
      default -> x.many(a[0]);
    };
  }

  private static int call(Model x, int m, int[] a) {
    return switch (m) {
      case 0 -> x.point(a[0], a[1], a[2]);
      case 1 -> x.face(a[0], a[1], a[2]);
      case 2 -> x.wire(a[0], a[1]);
      case 3 -> x.block(a[0], a[1], a[2], a[3], a[4], a[5]);
      case 4 -> x.cut();
      case 5 -> x.clear();
      case 6 -> x.view(a[0], a[1], a[2]);
      case 7 -> x.turn(a[0]);
      case 8 -> x.move(a[0], a[1], a[2]);
      case 9 -> x.ofPoint(a[0], a[1]);
      case 10 -> x.ofFace(a[0], a[1]);
      case 11 -> x.ofEdge(a[0], a[1]);
      case 12 -> x.edge(a[0], a[1]);
      case 13 -> x.stretch(a[0], a[1], a[2]);
      case 14 -> x.hidden(a[0], a[1], a[2]);
      case 15 -> x.piece(a[0], a[1], a[2]);
      case 16 -> x.crossing(a[0], a[1], a[2]);
      case 17 -> x.stroke(a[0], a[1]);
      case 18 -> x.strokePiece(a[0], a[1], a[2]);
      default -> x.many(a[0]);
    };
  }

  private static final int[] WILD = {
    Integer.MIN_VALUE, Integer.MAX_VALUE, -1, -2, -9, -10, 10, 16, 24, 80, 1000, 1001, 1 << 30};

  /** From 0 to just beyond a bound, so that wrong numbers come up now and then. */
  private static int near(Random r, int bound) {
    return r.nextInt(24) == 0 ? r.nextInt(3) - 1 + (r.nextBoolean() ? bound : 0) : r.nextInt(Math.max(bound, 1));
  }

  private static int coordinate(Random r, int reach) {
    return r.nextInt(40) == 0 ? r.nextInt(23) - 11 : r.nextInt(2 * reach + 1) - reach;
  }

  private static int[] arguments(Random r, int m, Model x, int reach) {
    int points = x.points.size();
    int faces = x.faces.size();
    int edges = m >= 11 ? x.edges().size() : 0;
    int[] a = new int[6];
    switch (m) {
      case 0 -> a = new int[] {coordinate(r, reach), coordinate(r, reach), coordinate(r, reach)};
      case 1 -> a = new int[] {near(r, points), near(r, points), near(r, points)};
      case 2, 12 -> a = new int[] {near(r, points), near(r, points)};
      case 3 -> {
        boolean grid = r.nextBoolean();
        for (int i = 0; i < 6; i++) {
          // Blocks on a grid meet in corners, edges and sides.
          a[i] = grid ? (i < 3 ? 2 * r.nextInt(2) : 2) : i < 3 ? coordinate(r, reach) : near(r, reach) + 1;
        }
      }
      case 6 -> {
        for (int i = 0; i < 3; i++) {
          a[i] = r.nextInt(30) == 0 ? r.nextInt(9) - 4 : r.nextInt(3) == 0 ? 0 : r.nextInt(7) - 3;
        }
      }
      case 7 -> a[0] = near(r, 4);
      case 8 -> {
        for (int i = 0; i < 3; i++) {
          a[i] = r.nextInt(30) == 0 ? r.nextInt(40) - 20 : r.nextInt(5) - 2;
        }
      }
      case 9 -> a = new int[] {near(r, points), near(r, 5)};
      case 10 -> a = new int[] {near(r, faces), near(r, 5)};
      case 11 -> a = new int[] {near(r, edges), near(r, 7)};
      case 13 -> a = new int[] {near(r, edges), near(r, faces), near(r, 4)};
      case 14 -> {
        int down = r.nextBoolean() ? near(r, 13) + 1 : near(r, 1000) + 1;
        a = new int[] {near(r, edges), near(r, Math.max(down, 0) + 1), down};
      }
      case 15 -> a = new int[] {near(r, edges), near(r, 1 + r.nextInt(6)), near(r, 5)};
      case 16 -> a = new int[] {near(r, edges), near(r, edges), near(r, 5)};
      case 17 -> a = new int[] {near(r, x.strokes().size()), near(r, 3)};
      case 18 -> a = new int[] {near(r, x.strokes().size()), near(r, 1 + r.nextInt(8)), near(r, 3)};
      case 19 -> a[0] = near(r, 12);
      default -> { }
    }
    if (r.nextInt(60) == 0) {
      a[r.nextInt(a.length)] = WILD[r.nextInt(WILD.length)];
    }
    return a;
  }

  private static int draw(Random r, int[] weights) {
    int sum = Arrays.stream(weights).sum();
    int left = r.nextInt(sum);
    for (int i = 0; i < weights.length; i++) {
      left -= weights[i];
      if (left < 0) {
        return i;
      }
    }
    return weights.length - 1;
  }

  private static int wrong = 0;

  private static void compare(long seed, HiddenEdges x, Model model, int m, int[] a) {
    int want = call(model, m, a);
    int got = call(x, m, a);
    if (got != want) {
      wrong++;
      if (wrong <= 20) {
        System.out.println("seed " + seed + ": " + NAMES[m] + Arrays.toString(a) + " answered " + got + ", due is " + want);
      }
    }
  }

  /** A few hundred calls: a scene grows, then it is asked and changed a little. */
  private static void run(long seed) {
    Random r = new Random(seed);
    HiddenEdges x = new HiddenEdges();
    Model model = new Model();
    int reach = 1 + r.nextInt(9);
    int grow = 20 + r.nextInt(120);
    for (int i = 0; i < grow + 200; i++) {
      int m = draw(r, i < grow ? GROW : ASK);
      compare(seed, x, model, m, arguments(r, m, model, reach));
    }
    for (int what = -1; what <= 12; what++) {
      compare(seed, x, model, 19, new int[] {what});
    }
  }

  /** Asks everything about a scene, so that no edge, face, piece or stroke is left to chance. */
  private static void askAll(long seed, HiddenEdges x, Model model) {
    int edges = model.edges().size();
    for (int e = 0; e < edges; e++) {
      for (int what = 0; what < 7; what++) {
        compare(seed, x, model, 11, new int[] {e, what});
      }
      for (int f = 0; f < model.faces.size(); f++) {
        for (int which = 0; which < 4; which++) {
          compare(seed, x, model, 13, new int[] {e, f, which});
        }
      }
      for (int k = 0; k <= model.pieces().get(e).size(); k++) {
        for (int what = 0; what < 5; what++) {
          compare(seed, x, model, 15, new int[] {e, k, what});
        }
      }
      for (int g = 0; g < edges; g++) {
        for (int which = 0; which < 5; which++) {
          compare(seed, x, model, 16, new int[] {e, g, which});
        }
      }
    }
    for (int k = 0; k < model.strokes().size(); k++) {
      for (int what = 0; what < 3; what++) {
        compare(seed, x, model, 17, new int[] {k, what});
      }
      for (int i = 0; i <= model.strokes().get(k).size(); i++) {
        for (int what = 0; what < 3; what++) {
          compare(seed, x, model, 18, new int[] {k, i, what});
        }
      }
    }
    for (int n = 0; n < model.points.size(); n++) {
      for (int what = 0; what < 5; what++) {
        compare(seed, x, model, 9, new int[] {n, what});
      }
    }
    for (int what = 0; what < 12; what++) {
      compare(seed, x, model, 19, new int[] {what});
    }
  }

  private static void wholeScene(long seed) {
    Random r = new Random(seed);
    HiddenEdges x = new HiddenEdges();
    Model model = new Model();
    int reach = 1 + r.nextInt(9);
    for (int i = 0; i < 140; i++) {
      int m = draw(r, GROW);
      compare(seed, x, model, m, arguments(r, m, model, reach));
    }
    askAll(seed, x, model);
  }

  private static void pointsOf(long seed, HiddenEdges x, Model model, int... coordinates) {
    for (int i = 0; i < coordinates.length; i += 3) {
      compare(seed, x, model, 0, new int[] {coordinates[i], coordinates[i + 1], coordinates[i + 2]});
    }
  }

  private static void holds(String what, int got, int want) {
    if (got != want) {
      wrong++;
      System.out.println(what + ": " + got + ", due is " + want);
    }
  }

  /** As many edges as there can be: 24 faces of which no two share an edge, and 8 wires. */
  private static void mostEdges(long seed) {
    Random r = new Random(seed);
    HiddenEdges x = new HiddenEdges();
    Model model = new Model();
    while (model.points.size() < 16) {
      pointsOf(seed, x, model, r.nextInt(19) - 9, r.nextInt(19) - 9, r.nextInt(19) - 9);
    }
    for (int i = 0; i < 24; i++) {
      int[] corners = i < 16 ? new int[] {i, (i + 1) % 16, (i + 3) % 16} : new int[] {i - 16, i - 12, (i - 7) % 16};
      compare(seed, x, model, 1, corners);
    }
    for (int i = 0; i < 8; i++) {
      compare(seed, x, model, 2, new int[] {i, (i + 6) % 16});
    }
    holds("the most edges", x.many(3), 80);
    askAll(seed, x, model);
    compare(seed, x, model, 6, new int[] {2, -3, 1});
    askAll(seed, x, model);
  }

  /** As many pieces as an edge can have: each of 24 faces hides a stretch with a beginning and an end of its own. */
  private static void mostPieces() {
    HiddenEdges x = new HiddenEdges();
    Model model = new Model();
    pointsOf(0, x, model, -9, 0, -9, 9, 0, -9);
    // Seven points above the wire in the view, and seven below; the lines between them all cross it elsewhere.
    pointsOf(0, x, model, -9, 1, 3, -6, 1, 0, 9, 8, 1, -3, 6, 2, 4, 9, 4, -5, 9, 0, 5, 9, 1);
    pointsOf(0, x, model, 8, -8, 2, 4, -1, 0, -4, -6, 3, -4, -5, 1, 6, -1, 0, -3, -1, 4, -8, -1, 2);
    compare(0, x, model, 2, new int[] {1, 0});
    for (int low = 0; low < 7; low++) {
      // Three faces use six of the seven lines from here; what is left of two points makes one more face.
      int spare = low / 2;
      for (int i = 1; i <= 3; i++) {
        compare(0, x, model, 1, new int[] {9 + low, 2 + (spare + i) % 7, 2 + (spare + 7 - i) % 7});
      }
      if (low % 2 == 1) {
        compare(0, x, model, 1, new int[] {2 + spare, 9 + low, 8 + low});
      }
    }
    holds("faces", x.many(1), 24);
    holds("the most pieces", x.ofEdge(0, 4), 49);
    askAll(0, x, model);
  }

  public static void main(String[] args) {
    int runs = args.length > 0 ? Integer.parseInt(args[0]) : 120;
    int scenes = args.length > 1 ? Integer.parseInt(args[1]) : 4;
    for (int seed = 1; seed <= runs; seed++) {
      run(seed);
    }
    for (int seed = 1; seed <= scenes; seed++) {
      wholeScene(1_000_000 + seed);
    }
    // This seed's points give 175 visible pieces, more than twice as many as there are edges.
    mostEdges(89449);
    mostPieces();
    System.out.println(wrong == 0 ? "all answers are as the model's" : wrong + " answers are not as the model's");
    if (wrong != 0) {
      System.exit(1);
    }
  }
}
