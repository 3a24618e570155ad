/**
 * The sentences under 'What it is' and 'Description' of the document that name a boundary case, in
 * their order, a test each. The answers are worked out by hand.
 */
public final class BoundariesTest {
  private static final int U = -1, O = -2, S = -3, F = -4, N = -9;

  /** Points 0 to 2 in the plane z = 0; at y = 0 the triangle reaches from x = -2 to x = 2. */
  private static Scene corners() {
    return new Scene().points(-4, -4, 0, 4, -4, 0, 0, 4, 0);
  }

  /** The triangle turned to the eye. */
  private static Scene triangle() {
    return corners().faces(0, 1, 2);
  }

  /** The triangle turned to the eye or away from it, and a wire, which is edge 3, from 3 to 4. */
  private static Scene wired(boolean away, int... ends) {
    Scene s = away ? corners().faces(0, 2, 1) : triangle();
    return s.points(ends).wires(3, 4);
  }

  private static Scene wired(int... ends) {
    return wired(false, ends);
  }

  private static void lastOf512Calls() {
    Scene.sentence("An object is used for at most 512 calls after it has been made");
    Scene s = triangle();
    while (s.calls() < 510) {
      int c = s.calls() % 7 - 3;
      s.view(1, 0, c).is(1);
      s.ofFace(0, 3).is(c > 0 ? 1 : c < 0 ? 2 : 0);
    }
    s.view(0, 0, 2).is(1);
    s.ofFace(0, 4).is(128);
    Scene.due("calls", s.calls(), 512);
    // The dearest call, over and over, with calls in between that make it count anew. Seen along z,
    // all edges of a block that are not flat are visible, and four strokes draw them.
    s = new Scene();
    s.block(-4, -4, -4, 3, 4, 5).is(8);
    while (s.calls() < 507) {
      s.view(0, 0, 1).is(1);
      s.many(8).is(4);
    }
    s.many(4).is(18);
    s.many(5).is(12);
    s.strokePiece(3, 0, 0).is(17);
    s.strokePiece(3, 0, 1).is(0);
    s.strokePiece(3, 0, 2).is(1);
    Scene.due("calls", s.calls(), 512);
  }

  private static void constants() {
    Scene.sentence("NONE (-9) means \"there is none\". The error codes are UNKNOWN (-1), OUTSIDE (-2), STATE (-3) and FULL (-4)");
    Scene.due("UNKNOWN", HiddenEdges.UNKNOWN, U);
    Scene.due("OUTSIDE", HiddenEdges.OUTSIDE, O);
    Scene.due("STATE", HiddenEdges.STATE, S);
    Scene.due("FULL", HiddenEdges.FULL, F);
    Scene.due("NONE", HiddenEdges.NONE, N);
  }

  private static void noneOnlyWithoutError() {
    Scene.sentence("NONE is returned only if no error applies");
    Scene s = wired(0, 0, -1, 8, 0, -1);
    s.edge(0, 3).is(N);
    Scene.all(U, s.edge(0, 5), s.edge(5, 5), s.edge(-1, -1), s.edge(5, 0));
    s.noStretch(0, 0);
    Scene.all(U, s.stretch(0, 1, 0), s.stretch(4, 0, 0), s.stretch(0, -1, 4), s.stretch(-1, 0, -1));
    Scene.all(O, s.stretch(0, 0, 4), s.stretch(0, 0, -1));
    s.noCrossing(0, 1);
    Scene.all(U, s.crossing(0, 4, 0), s.crossing(4, 0, 4));
    Scene.all(O, s.crossing(0, 1, 5), s.crossing(0, 1, -1), s.crossing(0, 0, 5));
    Scene.all(S, s.crossing(0, 0, 0), s.crossing(0, 0, 4));
    // Stroke 1 is the visible end of the wire, which begins at no point.
    s.strokeIs(1, N, 4, 3, 1, 1);
    Scene.all(O, s.stroke(1, 3), s.stroke(1, -1));
    Scene.all(U, s.stroke(2, 1), s.stroke(-1, 1), s.stroke(2, 3));
  }

  private static void lowestTerms() {
    Scene.sentence("Fractions are returned as a numerator and a denominator in lowest terms; the denominator is above 0");
    for (boolean away : new boolean[] {false, true}) {
      Scene s = wired(away, -8, 0, -1, 8, 0, -1);
      s.stretchIs(3, 0, 3, 8, 5, 8);
      s.piecesAre(3, 0, 1, 3, 8, 0, 3, 8, 5, 8, 1, 5, 8, 1, 1, 0);
      // The wire crosses the sides 0-2 and 1-2 in their middle; one order of edges has vol(u, w, d) below 0.
      s.crossingIs(1, 3, 1, 2, 3, 8);
      s.crossingIs(3, 1, 3, 8, 1, 2);
      s.crossingIs(2, 3, 1, 2, 5, 8);
      s.crossingIs(3, 2, 5, 8, 1, 2);
      s.view(0, 0, 3).is(1);
      s.stretchIs(3, 0, 3, 8, 5, 8);
      s.crossingIs(3, 1, 3, 8, 1, 2);
    }
    // A denominator that nothing divides stays.
    Scene s = wired(-8, 0, -1, 9, 0, -1);
    s.stretchIs(3, 0, 6, 17, 10, 17);
    s.crossingIs(3, 1, 6, 17, 1, 2);
  }

  private static void zeroIsZeroOverOne() {
    Scene.sentence("(0 is 0 / 1)");
    Scene s = wired(0, 0, -1, 8, 0, -1);
    s.stretchIs(3, 0, 0, 1, 1, 4);
    s.piecesAre(3, 0, 1, 1, 4, 1, 1, 4, 1, 1, 0);
    s.piecesAre(0, 0, 1, 1, 1, 0);
    // Here one of the four numbers is 0 at t = 0, so that the beginning is found as 0 / n.
    s = wired(-2, 0, -1, 8, 0, -1);
    s.stretchIs(3, 0, 0, 1, 2, 5);
    s.piecesAre(3, 0, 1, 2, 5, 1, 2, 5, 1, 1, 0);
    // And here at t = 1, so that the end is found as n / n.
    s = wired(-8, 0, -1, 2, 0, -1);
    s.stretchIs(3, 0, 3, 5, 1, 1);
    s.piecesAre(3, 0, 1, 3, 5, 0, 3, 5, 1, 1, 1);
  }

  private static void sixteenPoints() {
    Scene.sentence("There are at most 16 points, numbered from 0 in the order in which they are added");
    Scene s = new Scene();
    for (int n = 0; n < 16; n++) {
      s.point(9 - n, n / 3, -n % 4).is(n);
      s.many(0).is(n + 1);
    }
    s.point(9, 9, 9).is(F);
    s.many(0).is(16);
    for (int n = 0; n < 16; n++) {
      s.place(n, 9 - n, n / 3, -n % 4);
    }
    s.ofPoint(16, 0).is(U);
  }

  private static void coordinates() {
    Scene.sentence("with integer coordinates x, y and z from -9 to 9");
    Scene s = new Scene();
    for (int k = 0; k < 8; k++) {
      s.point((k & 1) == 0 ? -9 : 9, (k & 2) == 0 ? -9 : 9, (k & 4) == 0 ? -9 : 9).is(k);
    }
    for (int k = 0; k < 8; k++) {
      s.place(k, (k & 1) == 0 ? -9 : 9, (k & 2) == 0 ? -9 : 9, (k & 4) == 0 ? -9 : 9);
    }
    for (int far : Scene.beyond(-9, 9)) {
      Scene.all(O, s.point(far, 1, 1), s.point(1, far, 1), s.point(1, 1, far));
    }
    // What moves all points or adds a block keeps to the same range.
    Scene.all(S, s.move(1, 0, 0), s.move(0, -1, 0), s.move(0, 0, 1));
    Scene.all(O, s.block(1, 1, 1, 9, 1, 1), s.block(1, -10, 1, 1, 1, 1), s.block(1, 1, 9, 1, 1, 1));
    s.many(0).is(8);
  }

  private static void onePlaceOnePoint() {
    Scene.sentence("no two of them are at the same place");
    Scene s = new Scene().points(1, 2, 3);
    s.point(1, 2, 3).is(S);
    // Two coordinates in common are not the same place.
    s.points(0, 2, 3, 1, 0, 3, 1, 2, 0);
    Scene.all(S, s.point(0, 2, 3), s.point(1, 0, 3), s.point(1, 2, 0));
    s.many(0).is(4);
    s.move(1, 0, 0).is(1);
    s.point(2, 2, 3).is(S);
    s.point(0, 2, 3).is(4);
    s.clear().is(0);
    s.points(1, 2, 3);
    s.turn(2).is(1);
    s.point(-2, 1, 3).is(S);
    s.point(1, 2, 3).is(1);
    // A block uses the points that are there.
    s.clear().is(0);
    s.points(1, 1, 1);
    s.block(0, 0, 0, 1, 1, 1).is(7);
    s.point(1, 1, 1).is(S);
    s.point(0, 1, 1).is(S);
  }

  /** Eight corners of a cube, of which no three lie on a line. */
  private static Scene cube() {
    return new Scene().points(0, 0, 0, 2, 0, 0, 0, 2, 0, 2, 2, 0, 0, 0, 2, 2, 0, 2, 0, 2, 2, 2, 2, 2);
  }

  private static void twentyFourFaces() {
    Scene.sentence("There are at most 24 faces, numbered from 0 in the order in which they are added");
    Scene s = cube();
    int[][] made = new int[24][];
    int count = 0;
    for (int p = 7; p >= 0 && count < 24; p--) {
      for (int q = 0; q < p && count < 24; q++) {
        for (int r = 0; r < q && count < 24; r++) {
          made[count] = new int[] {p, q, r};
          s.face(p, q, r).is(count);
          count++;
        }
      }
    }
    s.face(0, 1, 2).is(F);
    s.many(1).is(24);
    for (int f = 0; f < 24; f++) {
      s.corners(f, made[f][0], made[f][1], made[f][2]);
    }
    s.ofFace(24, 0).is(U);
    s.cut().is(23);
    s.face(0, 1, 2).is(23);
  }

  private static void cornersInAnOrder() {
    Scene.sentence("each has three corners, which are points, in an order");
    int[][] orders = {{0, 1, 2}, {1, 2, 0}, {2, 0, 1}, {0, 2, 1}, {2, 1, 0}, {1, 0, 2}};
    for (int i = 0; i < orders.length; i++) {
      Scene s = corners();
      s.face(orders[i][0], orders[i][1], orders[i][2]).is(0);
      s.corners(0, orders[i][0], orders[i][1], orders[i][2]);
      s.ofFace(0, 3).is(i < 3 ? 1 : 2);
      s.ofFace(0, 4).is(64);
    }
    Scene s = new Scene();
    s.face(0, 1, 2).is(U);
    s.points(0, 0, 0, 1, 0, 0);
    s.face(0, 1, 2).is(U);
    s.points(0, 1, 0);
    s.face(0, 1, 2).is(0);
  }

  private static void notOnALine() {
    Scene.sentence("that do not lie on a straight line");
    Scene s = new Scene().points(0, 0, 0, -9, -9, -9, 9, 9, 9, 9, 9, 8, 9, 8, 9, 8, 9, 9);
    Scene.all(S, s.face(0, 1, 2), s.face(1, 0, 2), s.face(2, 1, 0));
    // One coordinate that is off by 1 is enough.
    s.faces(0, 1, 3, 0, 1, 4, 0, 1, 5);
    // Lines along each axis, and points that a look along one of the other two axes alone tells apart.
    s = new Scene().points(0, 0, 0, 3, 0, 0, -3, 0, 0, 0, 3, 0, 0, -3, 0, 0, 0, 3, 0, 0, -3);
    Scene.all(S, s.face(0, 1, 2), s.face(3, 0, 4), s.face(6, 5, 0));
    s.faces(0, 1, 3, 0, 3, 5, 0, 5, 1);
  }

  private static void sameThreePoints() {
    Scene.sentence("no two faces have the same three points");
    Scene s = cube().faces(5, 3, 6);
    Scene.all(S, s.face(5, 3, 6), s.face(3, 6, 5), s.face(6, 5, 3), s.face(5, 6, 3), s.face(6, 3, 5), s.face(3, 5, 6));
    s.many(1).is(1);
    // Two points in common are not the same three.
    s.faces(5, 3, 7, 5, 7, 6, 7, 3, 6);
    Scene.all(S, s.face(6, 3, 7), s.face(3, 5, 6));
    s.many(1).is(4);
    s.cut().is(3);
    s.face(6, 3, 7).is(3);
  }

  private static void eightWires() {
    Scene.sentence("There are at most 8 wires, each between two points");
    Scene s = cube();
    for (int n = 1; n < 8; n++) {
      s.wire(0, n).is(n);
    }
    s.wire(1, 2).is(8);
    Scene.all(F, s.wire(1, 3), s.wire(3, 1), s.wire(6, 7));
    s.counts(8, 0, 8, 8);
    s.clear().is(0);
    s.points(0, 0, 0, 1, 0, 0);
    s.wire(0, 1).is(1);
  }

  private static void oneWireBetweenTwo() {
    Scene.sentence("at most one between the same two points");
    Scene s = cube().wires(2, 5);
    Scene.all(S, s.wire(2, 5), s.wire(5, 2));
    s.many(2).is(1);
    // One point in common is not the same two.
    s.wires(2, 6, 5, 6);
    Scene.all(S, s.wire(6, 2), s.wire(6, 5), s.wire(2, 5));
    s.counts(8, 0, 3, 3);
  }

  private static void whatAnEdgeIs() {
    Scene.sentence("An edge is a pair of points that are both corners of some face, or between which there is a wire");
    Scene s = cube();
    s.many(3).is(0);
    s.faces(0, 1, 2);
    s.many(3).is(3);
    // Points of two different faces make no edge.
    s.faces(1, 2, 7);
    s.many(3).is(5);
    s.edge(0, 7).is(N);
    // A wire where there is an edge already makes none, and one elsewhere makes one.
    s.wires(2, 1);
    s.many(3).is(5);
    s.wires(7, 0);
    s.many(3).is(6);
    // Without the faces the wires are left.
    s.cut().is(1);
    s.many(3).is(4);
    s.cut().is(0);
    s.many(3).is(2);
    s.edge(1, 2).is(1);
    s.edge(0, 7).is(0);
    s.edge(0, 1).is(N);
  }

  private static void numbersOfEdges() {
    Scene.sentence("The edges are numbered from 0, by their lesser point, and those with the same lesser point by their greater point");
    Scene s = cube().wires(7, 6, 6, 1, 5, 0, 2, 1).faces(7, 3, 0);
    int[] low = {0, 0, 0, 1, 1, 3, 6};
    int[] high = {3, 5, 7, 2, 6, 7, 7};
    s.many(3).is(7);
    for (int e = 0; e < 7; e++) {
      s.ofEdge(e, 0).is(low[e]);
      s.ofEdge(e, 1).is(high[e]);
      s.edge(low[e], high[e]).is(e);
      s.edge(high[e], low[e]).is(e);
    }
    s.ofEdge(7, 0).is(U);
    // The last numbers that there can be.
    s.clear().is(1);
    for (int n = 0; n < 16; n++) {
      s.point(n % 4, n / 4, n * n % 9).is(n);
    }
    s.wires(14, 15, 0, 15, 0, 1);
    s.edge(15, 14).is(2);
    s.edge(15, 0).is(1);
    s.edge(1, 0).is(0);
  }

  private static void eightyEdges() {
    Scene.sentence("at most 24 faces ... at most 8 wires (which together make 80 edges, if no two have one in common)");
    Scene s = new Scene();
    // Scattered so that no corners of a face lie on a line.
    for (int n = 0; n < 16; n++) {
      s.point(n - 8, n * n % 17 - 8, n * n * n % 17 - 8).is(n);
    }
    for (int i = 0; i < 16; i++) {
      s.face(i, (i + 1) % 16, (i + 3) % 16).is(i);
    }
    for (int i = 0; i < 8; i++) {
      s.face(i, i + 4, (i + 9) % 16).is(16 + i);
    }
    for (int i = 0; i < 8; i++) {
      s.wire((i + 6) % 16, i).is(1 + i);
    }
    s.counts(16, 24, 8, 80);
    s.edge(14, 15).is(79);
    s.ofEdge(79, 0).is(14);
    s.ofEdge(79, 3).is(1);
    s.ofEdge(80, 0).is(U);
    int pieces = 0;
    for (int e = 0; e < 80; e++) {
      pieces += s.ofEdge(e, 4).got();
    }
    s.many(4).is(pieces);
    // Each of the three numbers goes through all edges, also when there are as many as can be.
    s.many(6).is(0);
    s.many(7).is(0);
    Scene.due("crossings of all edges are counted", s.many(10).got() > 0 ? 1 : 0, 1);
    Scene.due("strokes of all edges are made", s.many(8).got() > 0 ? 1 : 0, 1);
    s.cut().is(23);
    s.many(3).is(77);
  }

  private static void numbersChange() {
    Scene.sentence("(So their numbers can change when faces or wires are added or removed.)");
    Scene s = cube().wires(6, 7);
    s.edge(6, 7).is(0);
    s.faces(4, 5, 3);
    s.edge(6, 7).is(3);
    s.wires(0, 7);
    s.edge(6, 7).is(4);
    s.edge(4, 5).is(3);
    s.ofEdge(0, 1).is(7);
    s.cut().is(0);
    s.edge(6, 7).is(1);
    s.ofEdge(1, 0).is(6);
    s.clear().is(0);
    s.many(3).is(0);
    s.ofEdge(0, 0).is(U);
    whatIsRemovedCountsNoMore();
  }

  /** The edges, faces and crossings that were counted last are gone with the last face. */
  private static void whatIsRemovedCountsNoMore() {
    // Two squares in one plane, of two triangles each: edges 5-7 and 1-3 are flat.
    Scene s = new Scene().points(0, 0, 0, 2, 0, 0, 2, 2, 0, 0, 2, 0, 4, 0, 0, 6, 0, 0, 6, 2, 0, 4, 2, 0);
    s.faces(0, 1, 3, 1, 2, 3, 4, 5, 7, 5, 6, 7);
    s.many(6).is(2);
    s.many(9).is(4);
    s.cut().is(3);
    s.many(6).is(1);
    s.many(9).is(3);
    // Edge 5-7 has one face then.
    s.ofEdge(s.edge(5, 7).got(), 2).is(1);
    s.ofEdge(s.edge(5, 7).got(), 3).is(1);
    s.cut().is(2);
    s.many(6).is(1);
    s.many(9).is(2);
    // A roof seen from above has an outline along each gutter, as the walls are edge-on.
    s = new Scene().points(0, 0, 0, 9, 0, 0, 0, 0, 5, 4, 4, 5).faces(0, 1, 2);
    s.faces(0, 1, 3);
    s.many(7).is(1);
    s.cut().is(1);
    s.many(7).is(0);
    s.many(9).is(0);
    // The crossing of the last edge with another one.
    s = new Scene().points(-4, 0, 5, 4, 0, 5, 0, -4, 0, -1, 4, 0, 1, 4, 0).wires(0, 1).faces(2, 3, 4);
    s.many(10).is(2);
    s.cut().is(0);
    s.many(10).is(0);
    // With all 24 faces turned to the eye, and one less: triples of a half circle, in its sense.
    s = new Scene().points(9, 0, 0, 8, 3, 0, 6, 5, 0, 3, 7, 0, 0, 8, 0, -4, 7, 0, -7, 4, 0);
    int made = 0;
    for (int p = 0; p < 7 && made < 24; p++) {
      for (int q = p + 1; q < 7 && made < 24; q++) {
        for (int r = q + 1; r < 7 && made < 24; r++) {
          s.face(p, q, r).is(made);
          made++;
        }
      }
    }
    s.many(9).is(24);
    s.cut().is(23);
    s.many(9).is(23);
  }

  private static void componentsOfTheView() {
    Scene.sentence("The view is a direction d, with components from -3 to 3 that are not all 0");
    Scene s = new Scene().points(0, 0, 0, 1, 0, 0, 0, 1, 0, 0, 0, 1).faces(0, 2, 3, 0, 3, 1, 0, 1, 2);
    // The turns of the three faces are the three components.
    for (int far : new int[] {-3, 3}) {
      Scene.all(1, s.view(far, 0, 0), s.view(0, far, 0), s.view(0, 0, far), s.view(far, far, far));
      s.ofFace(0, 4).is(3);
      s.ofFace(1, 4).is(3);
      s.ofFace(2, 4).is(3);
      s.ofFace(2, 3).is(far > 0 ? 1 : 2);
    }
    for (int far : Scene.beyond(-3, 3)) {
      Scene.all(O, s.view(far, 1, 1), s.view(1, far, 1), s.view(1, 1, far), s.view(far, 0, 0), s.view(0, far, 0), s.view(0, 0, far));
    }
    s.view(0, 0, 0).is(O);
    s.ofFace(0, 4).is(3);
    s.view(-1, 0, 2).is(1);
    s.ofFace(0, 3).is(2);
    s.ofFace(1, 3).is(0);
    s.ofFace(2, 3).is(1);
  }

  private static void firstView() {
    Scene.sentence("at first it is (0, 0, 1)");
    Scene s = new Scene().points(0, 0, 0, 1, 0, 0, 0, 1, 0, 0, 0, 1).faces(0, 2, 3, 0, 3, 1, 0, 1, 2);
    s.ofFace(0, 4).is(0);
    s.ofFace(1, 4).is(0);
    s.ofFace(2, 4).is(1);
    s.ofFace(2, 3).is(1);
  }

  private static void signOfTheTurn() {
    Scene.sentence("If it is above 0, the face is turned to the eye, if it is below 0, away from it; if it is 0, the face is seen edge-on");
    Scene s = new Scene().points(0, 0, 0, 1, 0, 0, 0, 1, 0).faces(0, 1, 2);
    s.view(3, -3, 1).is(1);
    s.ofFace(0, 3).is(1);
    s.ofFace(0, 4).is(1);
    s.many(9).is(1);
    s.view(3, -3, -1).is(1);
    s.ofFace(0, 3).is(2);
    s.ofFace(0, 4).is(1);
    s.many(9).is(0);
    s.view(3, -3, 0).is(1);
    s.ofFace(0, 3).is(0);
    s.ofFace(0, 4).is(0);
    s.many(9).is(0);
    // A slanted face, seen edge-on along a slanted view; its turn is 18 * 18 * (a + b + c).
    s = new Scene().points(-9, -9, 9, 9, -9, -9, -9, 9, -9).faces(0, 1, 2);
    s.view(3, 3, 3).is(1);
    s.ofFace(0, 4).is(2916);
    s.ofFace(0, 3).is(1);
    s.view(3, -1, -2).is(1);
    s.ofFace(0, 4).is(0);
    s.ofFace(0, 3).is(0);
    s.view(3, -1, -3).is(1);
    s.ofFace(0, 4).is(324);
    s.ofFace(0, 3).is(2);
    s.turn(3).is(3);
    // Mirrored, its turn is 18 * 18 * (c - a - b).
    s.view(-3, -3, 3).is(1);
    s.ofFace(0, 4).is(2916);
    s.ofFace(0, 3).is(1);
    s.view(3, 3, -3).is(1);
    s.ofFace(0, 4).is(2916);
    s.ofFace(0, 3).is(2);
  }

  private static void edgeOnHidesNothing() {
    Scene.sentence("if its turn T is not 0 (a face that is seen edge-on hides nothing)");
    // From the side the triangle is a line; for a place on that line all of the first three numbers are 0.
    Scene s = wired(0, -8, 0, 0, 8, 0);
    s.points(2, 0, 0, -2, 0, 0, 0, 0, 1);
    s.view(1, 0, 0).is(1);
    s.ofFace(0, 3).is(0);
    s.noStretch(3, 0);
    s.hidden(3, 1, 2).is(0);
    s.piecesAre(3, 0, 1, 1, 1, 0);
    s.ofPoint(5, 3).is(0);
    s.ofPoint(6, 3).is(0);
    s.ofPoint(7, 3).is(0);
    s.many(11).is(0);
    // A little slanted, it hides again.
    s.view(3, 0, 1).is(1);
    s.points(-3, 0, -1);
    s.ofPoint(8, 3).is(1);
  }

  private static void leastTurn() {
    Scene.sentence("T is not 0 (a face whose turn is 1 or -1 hides as any other one)");
    for (boolean away : new boolean[] {false, true}) {
      Scene s = new Scene().points(0, 0, 0, 1, 0, 0, 0, 1, 0, 0, 0, -1, 1, 1, -1, -1, 1, -2, 1, 0, -1);
      s.faces(0, away ? 2 : 1, away ? 1 : 2).wires(3, 4, 5, 6);
      s.ofFace(0, 3).is(away ? 2 : 1);
      s.ofFace(0, 4).is(1);
      // From below corner 0 to below the middle of side 1-2.
      int e = s.edge(3, 4).got();
      s.stretchIs(e, 0, 0, 1, 1, 2);
      Scene.all(0, s.hidden(e, 0, 1000), s.hidden(e, 1, 2), s.hidden(e, 501, 1000));
      Scene.all(1, s.hidden(e, 1, 1000), s.hidden(e, 499, 1000));
      // From outside over side 0-2 to below corner 1.
      e = s.edge(5, 6).got();
      s.stretchIs(e, 0, 1, 2, 1, 1);
      Scene.all(0, s.hidden(e, 1, 2), s.hidden(e, 1000, 1000));
      Scene.all(1, s.hidden(e, 501, 1000), s.hidden(e, 999, 1000));
    }
  }

  /** Points 0 and 1 of the edge along x, and others that make faces with it: f(0, 1, n) has the turn -4 * nz * b + 4 * ny * c. */
  private static Scene fan(int... corners) {
    Scene s = new Scene().points(0, 0, 0, 4, 0, 0, 2, 4, 0, 2, -4, 0, 2, 0, 4, 2, 0, -4, 2, 8, 0, 2, -4, 1);
    return s.faces(corners);
  }

  private static void sort(int want, int visible, int... corners) {
    for (boolean wire : new boolean[] {false, true}) {
      Scene s = fan(corners);
      if (wire) {
        s.wires(1, 0);
      }
      s.edge(0, 1).is(0);
      s.ofEdge(0, 2).is(corners.length / 3);
      s.ofEdge(0, 3).is(want);
      s.ofEdge(0, 5).is(visible);
      s.ofEdge(0, 6).is(wire ? 1 : 0);
    }
  }

  private static void sortOnlyAWire() {
    Scene.sentence("0 there is only a wire, and no face has both points as corners");
    Scene s = fan(0, 2, 3, 1, 2, 3).wires(0, 1);
    s.ofEdge(s.edge(0, 1).got(), 3).is(0);
    s.ofEdge(s.edge(0, 1).got(), 2).is(0);
    s.ofEdge(s.edge(0, 1).got(), 6).is(1);
    s.ofEdge(s.edge(0, 2).got(), 3).is(1);
    s.faces(0, 1, 4);
    s.ofEdge(s.edge(0, 1).got(), 3).is(1);
    s.cut().is(2);
    s.ofEdge(s.edge(0, 1).got(), 3).is(0);
  }

  private static void sortBorder() {
    Scene.sentence("1 border, exactly one face has both");
    sort(1, 1, 0, 1, 2);
    sort(1, 1, 2, 1, 0);
    // It does not matter how the face is turned.
    sort(1, 1, 1, 4, 0);
  }

  private static void sortFlat() {
    Scene.sentence("2 flat, exactly two faces have both, and they lie in one plane");
    sort(2, 0, 0, 1, 2, 1, 0, 3);
    // In one plane, though one is turned to the eye and the other one away: it is no outline.
    sort(2, 0, 0, 1, 2, 0, 1, 3);
    // Both on the same side of the edge, one over the other.
    sort(2, 0, 0, 1, 2, 0, 1, 6);
    sort(2, 0, 2, 0, 1, 6, 1, 0);
    // Both edge-on.
    sort(2, 0, 0, 1, 4, 0, 1, 5);
    // A plane that is off by 1 is another one.
    sort(4, 1, 0, 1, 2, 1, 0, 7);
    Scene s = fan(0, 1, 2, 1, 0, 3);
    s.many(6).is(1);
    s.many(7).is(0);
  }

  private static void sortOutline() {
    Scene.sentence("3 outline, exactly two faces have both, they do not lie in one plane, and exactly one of them is turned to the eye (the other one being turned away or edge-on)");
    sort(3, 1, 0, 1, 2, 0, 1, 7);
    sort(3, 1, 0, 1, 7, 0, 1, 2);
    sort(3, 1, 0, 1, 2, 0, 1, 4);
    sort(3, 1, 0, 1, 5, 0, 1, 2);
    Scene s = fan(0, 1, 2, 0, 1, 4);
    s.ofFace(1, 3).is(0);
    s.many(7).is(1);
    s.view(0, 0, -1).is(1);
    s.ofEdge(0, 3).is(4);
    s.many(7).is(0);
    // Turns of 1 and -1 are enough, whichever of the faces is first.
    s = new Scene().points(0, 0, 0, 1, 0, 0, 0, 1, 0, 0, -1, 1).faces(0, 1, 2, 0, 1, 3);
    s.ofFace(0, 4).is(1);
    s.ofFace(1, 4).is(1);
    s.ofEdge(0, 3).is(3);
    s.view(0, 0, -1).is(1);
    s.ofEdge(0, 3).is(3);
  }

  private static void sortFold() {
    Scene.sentence("4 fold, exactly two faces have both, and neither 2 nor 3 applies");
    // Both turned to the eye, both away, one away and one edge-on.
    sort(4, 1, 0, 1, 2, 1, 0, 7);
    sort(4, 1, 1, 0, 2, 0, 1, 7);
    sort(4, 1, 1, 0, 2, 0, 1, 4);
    sort(4, 1, 0, 1, 4, 1, 0, 2);
    // Both turned by 1 to the eye.
    Scene s = new Scene().points(0, 0, 0, 1, 0, 0, 0, 1, 0, 0, -1, 1).faces(0, 1, 2, 1, 0, 3);
    s.ofEdge(0, 3).is(4);
    s.view(0, 0, -1).is(1);
    s.ofEdge(0, 3).is(4);
    // Both edge-on, and not in one plane: the edge lies along the view.
    s = fan(0, 1, 2, 0, 1, 4);
    s.view(1, 0, 0).is(1);
    s.ofFace(0, 3).is(0);
    s.ofFace(1, 3).is(0);
    s.ofEdge(0, 3).is(4);
    s.many(6).is(0);
    s.many(7).is(0);
  }

  private static void sortManyFaces() {
    Scene.sentence("5 three or more faces have both");
    sort(5, 1, 0, 1, 2, 1, 0, 3, 0, 1, 4);
    // Three in one plane are not flat, and three of which one is turned to the eye are no outline.
    sort(5, 1, 0, 1, 2, 0, 1, 3, 0, 1, 6);
    sort(5, 1, 0, 1, 2, 0, 1, 7, 0, 1, 5);
    sort(5, 1, 0, 1, 2, 0, 1, 3, 0, 1, 4, 0, 1, 5);
    Scene s = fan(0, 1, 2, 0, 1, 3, 0, 1, 6);
    s.many(6).is(0);
    s.cut().is(2);
    s.many(6).is(1);
  }

  private static void wireBesideFaces() {
    Scene.sentence("For the sorts 1 to 5 it does not matter whether there is a wire, too");
    sort(1, 1, 0, 1, 2);
    sort(2, 0, 0, 1, 2, 1, 0, 3);
    sort(3, 1, 0, 1, 2, 0, 1, 4);
    sort(4, 1, 0, 1, 2, 1, 0, 7);
    sort(5, 1, 0, 1, 2, 1, 0, 3, 0, 1, 4);
    Scene s = fan(0, 1, 2, 1, 0, 3).wires(0, 1);
    s.many(6).is(1);
    s.many(5).is(4);
  }

  private static void fromTheLesserPoint() {
    Scene.sentence("A place on an edge with the lesser point A and the greater point B is given by a number t from 0 to 1");
    // The wire is named from its greater point on; all the same t = 0 is at point 3.
    Scene s = triangle().points(0, 0, -1, 8, 0, -1);
    s.wire(4, 3).is(1);
    s.hidden(3, 0, 1).is(1);
    s.hidden(3, 1, 1).is(0);
    s.stretchIs(3, 0, 0, 1, 1, 4);
    s.points(0, -6, 5);
    s.wire(5, 0).is(2);
    s.crossingIs(s.edge(0, 5).got(), 0, N, N, N, N, N);
    s = triangle().points(8, 0, -1, 0, 0, -1).wires(3, 4);
    s.hidden(3, 0, 1).is(0);
    s.hidden(3, 1, 1).is(1);
    s.stretchIs(3, 0, 3, 4, 1, 1);
    // Both ends of the range, and a place that is nearest to an end.
    s.hidden(3, 1, 1000).is(0);
    s.hidden(3, 999, 1000).is(1);
    Scene.all(O, s.hidden(3, -1, 1000), s.hidden(3, 1001, 1000));
  }

  /** A place just where one of the four numbers is 0, and its two neighbours: inside, and outside. */
  private static void borderPlace(boolean away, int... places) {
    Scene s = away ? corners().faces(0, 2, 1) : triangle();
    s.points(places);
    s.ofPoint(3, 3).is(0);
    s.ofPoint(4, 3).is(1);
    s.ofPoint(5, 3).is(0);
    // The same places as the ends of edges.
    s.wires(3, 4, 4, 5);
    s.hidden(3, 0, 1).is(0);
    s.hidden(3, 1, 1).is(1);
    s.hidden(4, 0, 1).is(1);
    s.hidden(4, 1, 1).is(0);
  }

  private static void borderPlaceBothWays(int... places) {
    borderPlace(false, places);
    borderPlace(true, places);
  }

  private static void fourNumbers() {
    Scene.sentence("vol(Q - P, X - P, d) has the same sign as T (not 0)");
    borderPlaceBothWays(0, -4, -1, 0, -3, -1, 0, -5, -1);
    Scene.sentence("vol(R - Q, X - Q, d) has the same sign as T (not 0)");
    borderPlaceBothWays(2, 0, -1, 1, 0, -1, 3, 0, -1);
    Scene.sentence("vol(P - R, X - R, d) has the same sign as T (not 0)");
    borderPlaceBothWays(-2, 0, -1, -1, 0, -1, -3, 0, -1);
    Scene.sentence("vol(Q - P, R - P, P - X) has the same sign as T (not 0)");
    borderPlaceBothWays(0, 0, 0, 0, 0, -1, 0, 0, 1);
  }

  private static void placesOnAnEdgeAtTheBorder() {
    Scene.sentence("all have the same sign as T (none of them is 0)");
    for (boolean away : new boolean[] {false, true}) {
      // Across the middle, from side 2-0 at t = 3/8 to side 1-2 at t = 5/8.
      Scene s = wired(away, -8, 0, -1, 8, 0, -1);
      Scene.all(0, s.hidden(3, 3, 8), s.hidden(3, 5, 8), s.hidden(3, 374, 1000), s.hidden(3, 375, 1000), s.hidden(3, 626, 1000));
      Scene.all(1, s.hidden(3, 376, 1000), s.hidden(3, 1, 2), s.hidden(3, 624, 1000));
      // Upwards from side 0-1 at t = 1/4 to corner 2 at t = 3/4, where two of the numbers are 0.
      s = wired(away, 0, -8, -1, 0, 8, -1);
      Scene.all(0, s.hidden(3, 1, 4), s.hidden(3, 249, 1000), s.hidden(3, 3, 4), s.hidden(3, 751, 1000));
      Scene.all(1, s.hidden(3, 251, 1000), s.hidden(3, 749, 1000));
      // Through the plane at t = 1/3, seen as a dot.
      s = wired(away, 0, 0, -2, 0, 0, 4);
      Scene.all(0, s.hidden(3, 1, 3), s.hidden(3, 334, 1000), s.hidden(3, 1, 1));
      Scene.all(1, s.hidden(3, 333, 1000), s.hidden(3, 0, 1));
      // The corners of a face and its edges are not hidden by it.
      Scene.all(0, s.ofPoint(0, 3), s.ofPoint(1, 3), s.ofPoint(2, 3), s.hidden(0, 1, 2), s.hidden(1, 1, 2), s.hidden(2, 1, 2));
    }
  }

  private static void noStretchAtAll() {
    Scene.sentence("There is none");
    for (boolean away : new boolean[] {false, true}) {
      // In front, beside, in the plane, along side 0-1, and through corner 2 only.
      wired(away, -8, 0, 1, 8, 0, 1).noStretch(3, 0);
      wired(away, -8, 5, -1, 8, 5, -1).noStretch(3, 0);
      wired(away, -8, 0, 0, 8, 0, 0).noStretch(3, 0);
      wired(away, -8, -4, -1, 8, -4, -1).noStretch(3, 0);
      wired(away, -8, 4, -1, 8, 4, -1).noStretch(3, 0);
      // It ends at the border, or at the plane, and comes from outside.
      wired(away, -8, 0, -1, -2, 0, -1).noStretch(3, 0);
      wired(away, 0, 0, 0, 0, 0, 5).noStretch(3, 0);
      // Seen as a dot at a side and at a corner.
      wired(away, 0, -4, -1, 0, -4, -5).noStretch(3, 0);
      wired(away, 0, 4, -1, 0, 4, -5).noStretch(3, 0);
    }
    Scene s = triangle();
    s.noStretch(0, 0);
    s.noStretch(1, 0);
    s.noStretch(2, 0);
  }

  private static void twoDifferentFractions() {
    Scene.sentence("or it consists of all t between two different fractions, its beginning and its end");
    for (boolean away : new boolean[] {false, true}) {
      // It comes to the front just where it comes behind the side, at t = 3/8 ...
      wired(away, -8, 0, -3, 8, 0, 5).noStretch(3, 0);
      // ... and goes to the back just where it leaves the other side, at t = 5/8.
      wired(away, -8, 0, 5, 8, 0, -3).noStretch(3, 0);
      // Through the plane in the middle there is a stretch on one side.
      wired(away, -8, 0, -4, 8, 0, 4).stretchIs(3, 0, 3, 8, 1, 2);
      wired(away, -8, 0, 4, 8, 0, -4).stretchIs(3, 0, 1, 2, 5, 8);
      // The two fractions may be close to each other: from x = -2 on, at t = 7/18, to the plane at t = 8/17.
      wired(away, -9, 0, -8, 9, 0, 9).stretchIs(3, 0, 7, 18, 8, 17);
    }
  }

  private static void stretchWithAnEnd() {
    Scene.sentence("(perhaps also of the end t = 0 or t = 1 of the edge itself)");
    for (boolean away : new boolean[] {false, true}) {
      // The end is hidden itself.
      Scene s = wired(away, 0, 0, -1, 8, 0, -1);
      s.stretchIs(3, 0, 0, 1, 1, 4);
      s.hidden(3, 0, 1).is(1);
      s = wired(away, 8, 0, -1, 0, 0, -1);
      s.stretchIs(3, 0, 3, 4, 1, 1);
      s.hidden(3, 1, 1).is(1);
      // The end lies at the border, so it is not hidden, and the stretch reaches it all the same.
      s = wired(away, -2, 0, -1, 8, 0, -1);
      s.stretchIs(3, 0, 0, 1, 2, 5);
      s.hidden(3, 0, 1).is(0);
      s.hidden(3, 1, 1000).is(1);
      s = wired(away, 8, 0, -1, -2, 0, -1);
      s.stretchIs(3, 0, 3, 5, 1, 1);
      s.hidden(3, 1, 1).is(0);
      s.hidden(3, 999, 1000).is(1);
      // From the plane back.
      s = wired(away, 0, 0, 0, 0, 0, -5);
      s.stretchIs(3, 0, 0, 1, 1, 1);
      s.hidden(3, 0, 1).is(0);
      s.hidden(3, 1, 1).is(1);
      // From one side to another.
      s = wired(away, -2, 0, -1, 2, 0, -3);
      s.stretchIs(3, 0, 0, 1, 1, 1);
      s.hidden(3, 0, 1).is(0);
      s.hidden(3, 1, 1).is(0);
      s.hidden(3, 1, 2).is(1);
      // From a corner of the face itself to a place behind it.
      s = wired(away, 0, 0, -1, 9, 9, 9).wires(2, 3);
      int e = s.edge(2, 3).got();
      s.stretchIs(e, 0, 0, 1, 1, 1);
      s.hidden(e, 0, 1).is(0);
      s.hidden(e, 1, 1).is(1);
    }
  }

  private static void edgeWithoutStretch() {
    Scene.sentence("The cuts of an edge are 0, 1, and all beginnings and ends (an edge without a stretch has one piece)");
    Scene s = wired(-8, 0, 1, 8, 0, 1);
    for (int e = 0; e < 4; e++) {
      s.piecesAre(e, 0, 1, 1, 1, 0);
      s.ofEdge(e, 5).is(1);
    }
    s.many(4).is(4);
    s = new Scene().points(0, 0, 0, 0, 0, 1).wires(0, 1);
    s.piecesAre(0, 0, 1, 1, 1, 0);
    s.many(4).is(1);
  }

  private static void cutsOnce() {
    Scene.sentence("each once, in ascending order");
    // A stretch that reaches an end gives no second cut there.
    wired(0, 0, -1, 8, 0, -1).piecesAre(3, 0, 1, 1, 4, 1, 1, 4, 1, 1, 0);
    wired(8, 0, -1, 0, 0, -1).piecesAre(3, 0, 1, 3, 4, 0, 3, 4, 1, 1, 1);
    wired(-1, 0, -1, 1, 0, -1).piecesAre(3, 0, 1, 1, 1, 1);
    wired(-2, 0, -1, 2, 0, -3).piecesAre(3, 0, 1, 1, 1, 1);
    // Two faces with the same stretch.
    Scene s = wired(-8, 0, -1, 8, 0, -1).points(-4, -4, 5, 4, -4, 5, 0, 4, 5).faces(7, 6, 5);
    s.piecesAre(3, 0, 1, 3, 8, 0, 3, 8, 5, 8, 2, 5, 8, 1, 1, 0);
    // One stretch ends where the other one begins: two faces side by side, in this order and in the other one.
    for (int first : new int[] {0, 1}) {
      s = new Scene().points(-4, -4, 0, 4, -4, 0, 0, -4, 0, 0, 4, 0, -8, 0, -1, 8, 0, -1).wires(4, 5);
      s.faces(first, 2, 3, 1 - first, 2, 3);
      s.piecesAre(s.edge(4, 5).got(), 0, 1, 3, 8, 0, 3, 8, 1, 2, 1, 1, 2, 5, 8, 1, 5, 8, 1, 1, 0);
      s.stretchIs(s.edge(4, 5).got(), first, 3, 8, 1, 2);
      s.stretchIs(s.edge(4, 5).got(), 1 - first, 1, 2, 5, 8);
    }
    ascending();
  }

  /** Faces from right to left, so that later ones give lesser cuts: at x = 5 to 7, -1 to 1 and -7 to -5. */
  private static void ascending() {
    Scene s = new Scene().points(-8, 0, -1, 8, 0, -1).wires(0, 1);
    for (int x = 6; x >= -6; x -= 6) {
      int n = s.many(0).got();
      s.points(x - 1, -1, 0, x - 1, 1, 0, x + 1, 0, 0).faces(n, n + 1, n + 2);
    }
    s.piecesAre(0, 0, 1, 1, 16, 0, 1, 16, 3, 16, 1, 3, 16, 7, 16, 0, 7, 16, 9, 16, 1, 9, 16, 13, 16, 0, 13, 16, 15, 16, 1, 15, 16, 1, 1, 0);
    s.ofEdge(0, 5).is(4);
  }

  private static void mostPieces() {
    Scene.sentence("The cuts of an edge are ... all beginnings and ends of its stretches by all faces (at most 2 * 24 and 2)");
    Scene s = new Scene().points(-9, 0, -9, 9, 0, -9);
    // Seven points above the wire in the view, and seven below; the lines between them all cross it elsewhere.
    s.points(-9, 1, 3, -6, 1, 0, 9, 8, 1, -3, 6, 2, 4, 9, 4, -5, 9, 0, 5, 9, 1);
    s.points(8, -8, 2, 4, -1, 0, -4, -6, 3, -4, -5, 1, 6, -1, 0, -3, -1, 4, -8, -1, 2).wires(0, 1);
    for (int low = 0; low < 7; low++) {
      // Three faces use six of the seven lines from here; what is left of two points makes one more face.
      int spare = low / 2;
      for (int i = 1; i <= 3; i++) {
        s.faces(9 + low, 2 + (spare + i) % 7, 2 + (spare + 7 - i) % 7);
      }
      if (low % 2 == 1) {
        s.faces(2 + spare, 9 + low, 8 + low);
      }
    }
    s.many(1).is(24);
    s.ofEdge(0, 4).is(49);
    s.piece(0, 0, 0).is(0);
    s.piece(0, 48, 2).is(1);
    s.piece(0, 48, 3).is(1);
    s.piece(0, 49, 0).is(U);
    // Each cut is greater than the one before, and each piece begins where the last one ended.
    for (int k = 0; k < 49; k++) {
      int up = s.piece(0, k, 0).got(), down = s.piece(0, k, 1).got();
      int nextUp = s.piece(0, k, 2).got(), nextDown = s.piece(0, k, 3).got();
      Scene.due("cut " + k + " is less than the next one", up * nextDown < nextUp * down ? 1 : 0, 1);
      if (k < 48) {
        s.piece(0, k + 1, 0).is(nextUp);
        s.piece(0, k + 1, 1).is(nextDown);
      }
    }
    s.piece(0, 48, 4).is(0);
  }

  private static void quantity() {
    Scene.sentence("The quantity of a piece is the number of faces by which all of it (except perhaps its ends) is hidden");
    Scene s = wired(-2, 0, -1, 2, 0, -3);
    s.piece(3, 0, 4).is(1);
    // A second face hides a part from its middle on, from x = 0 to x = 2 and beyond.
    s.points(0, -8, 6, 0, 8, 6, 8, 0, 6).faces(5, 6, 7);
    s.piecesAre(3, 0, 1, 1, 2, 1, 1, 2, 1, 1, 2);
    s.many(11).is(2);
    // Both ends are at the border of the first face, so they are hidden by less faces than the pieces.
    Scene.all(0, s.hidden(3, 0, 1));
    Scene.all(1, s.hidden(3, 1, 4), s.hidden(3, 1, 2), s.hidden(3, 1, 1));
    Scene.all(2, s.hidden(3, 3, 4));
    // As many as there can be: 24 faces in front of one wire.
    s = new Scene().points(0, 0, -9, 1, 0, -8).wires(0, 1);
    s.points(-9, -9, 0, -9, -8, 1, -9, -7, 2, -8, -9, 3, 9, -9, 0, 9, -8, 1, 9, -7, 2, 0, 9, 0, 1, 9, 1);
    for (int i = 0; i < 24; i++) {
      s.face(2 + i / 6, 6 + i / 2 % 3, 9 + i % 2).is(i);
    }
    s.ofPoint(0, 3).is(24);
    s.hidden(0, 1, 2).is(24);
    s.piecesAre(0, 0, 1, 1, 1, 24);
    s.many(11).is(24);
  }

  private static void visiblePieces() {
    Scene.sentence("A piece is visible if its quantity is 0 and its edge is not flat");
    Scene s = wired(-8, 0, -1, 8, 0, -1);
    s.ofEdge(3, 5).is(2);
    s.many(5).is(5);
    s = wired(-1, 0, -1, 1, 0, -1);
    s.ofEdge(3, 5).is(0);
    s.many(5).is(3);
    // An end at a border does not make the piece visible.
    s = wired(-2, 0, -1, 2, 0, -1);
    s.ofEdge(3, 5).is(0);
    // A flat edge has pieces, of which none is visible, with a wire or without.
    s = new Scene().points(0, 0, 0, 4, 0, 0, 4, 4, 0, 0, 4, 0).faces(0, 1, 2, 0, 2, 3);
    s.ofEdge(1, 3).is(2);
    s.piecesAre(1, 0, 1, 1, 1, 0);
    s.ofEdge(1, 5).is(0);
    s.many(4).is(5);
    s.many(5).is(4);
    s.wires(0, 2);
    s.ofEdge(1, 5).is(0);
    s.many(5).is(4);
  }

  /** Two wires, edges 0 and 1, from 0 to 1 and from 2 to 3. */
  private static Scene pair(int... ends) {
    return new Scene().points(ends).wires(0, 1, 2, 3);
  }

  private static void pointInCommon() {
    Scene.sentence("Two edges cross if they have no point in common");
    Scene s = new Scene().points(-4, 0, 0, 4, 0, 0, 0, 4, 3, 0, -4, -3).wires(0, 1, 0, 2, 1, 2, 1, 3);
    for (int e = 0; e < 3; e++) {
      s.noCrossing(e, 3);
    }
    s.noCrossing(0, 1);
    s.noCrossing(0, 2);
    s.noCrossing(1, 2);
    s.many(10).is(0);
    // An edge with another point at the same place of the view doesn't cross there either.
    s = pair(0, 0, 0, 4, 0, 0, 0, 0, 5, 0, 4, 5);
    s.noCrossing(0, 1);
    s.many(10).is(0);
  }

  private static void parallelInTheView() {
    Scene.sentence("vol(u, w, d) is not 0");
    // Side by side, one over the other, and one seen as a dot upon the other one.
    pair(-4, 0, 0, 4, 0, 0, -4, 1, 0, 4, 1, 0).noCrossing(0, 1);
    pair(-4, 0, 0, 4, 0, 0, -3, 0, 2, 3, 0, 5).noCrossing(0, 1);
    pair(-4, 0, 0, 4, 0, 0, 3, 0, 2, -3, 0, -2).noCrossing(0, 1);
    pair(-4, 0, 0, 4, 0, 0, 0, 0, -3, 0, 0, 3).noCrossing(0, 1);
    pair(0, 0, 1, 0, 0, 5, 0, 0, -3, 0, 0, -1).noCrossing(0, 1);
    Scene s = pair(-4, 0, 0, 4, 0, 0, 0, 0, -3, 0, 0, 3);
    s.many(10).is(0);
    s.view(0, 1, 0).is(1);
    s.crossingIs(0, 1, 1, 2, 1, 2, N);
    s.many(10).is(1);
  }

  private static void withinBothEdges() {
    Scene.sentence("and there are t and s, both greater than 0 and less than 1");
    // t = 0 and t = 1, and as near to them as the edge's points allow.
    pair(-9, 0, 0, 9, 0, 0, -9, -1, 5, -9, 1, 5).noCrossing(0, 1);
    pair(-9, 0, 0, 9, 0, 0, 9, -1, 5, 9, 1, 5).noCrossing(0, 1);
    pair(-9, 0, 0, 9, 0, 0, -8, -1, 5, -8, 1, 5).crossingIs(0, 1, 1, 18, 1, 2, 1);
    pair(-9, 0, 0, 9, 0, 0, 8, -1, 5, 8, 1, 5).crossingIs(0, 1, 17, 18, 1, 2, 1);
    // s = 0 and s = 1, and as near to them.
    pair(-9, 0, 0, 9, 0, 0, 3, 0, 5, 3, 9, 5).noCrossing(0, 1);
    pair(-9, 0, 0, 9, 0, 0, 3, -9, 5, 3, 0, 5).noCrossing(0, 1);
    pair(-9, 0, 0, 9, 0, 0, 3, -1, 5, 3, 9, 5).crossingIs(0, 1, 2, 3, 1, 10, 1);
    pair(-9, 0, 0, 9, 0, 0, 3, -9, 5, 3, 1, 5).crossingIs(0, 1, 2, 3, 9, 10, 1);
    // The lines cross, but beyond an end: t or s below 0 or above 1, or all of it.
    pair(-1, 0, 0, 1, 0, 0, 2, -1, 0, 2, 1, 0).noCrossing(0, 1);
    pair(-1, 0, 0, 1, 0, 0, -2, -1, 0, -2, 1, 0).noCrossing(0, 1);
    pair(-1, 0, 0, 1, 0, 0, 0, 1, 0, 0, 2, 0).noCrossing(0, 1);
    pair(-1, 0, 0, 1, 0, 0, 0, -2, 0, 0, -1, 0).noCrossing(0, 1);
    pair(-1, 0, 0, 1, 0, 0, 2, 1, 0, 2, 2, 0).noCrossing(0, 1);
    // Corner upon corner.
    pair(-1, 0, 0, 1, 0, 0, 1, 0, 3, 2, 5, 3).noCrossing(0, 1);
  }

  private static void onALineOfSight() {
    Scene.sentence("such that their places on the one and the other edge lie on a line with the direction d");
    // From (0, 0, 1) the wires cross in the middle; slanted views move them until they don't.
    Scene s = pair(-2, 0, 0, 2, 0, 0, 0, -2, 1, 0, 6, 1);
    s.crossingIs(0, 1, 1, 2, 1, 4, 1);
    s.view(-1, 0, 1).is(1);
    s.crossingIs(0, 1, 3, 4, 1, 4, 1);
    s.view(-2, 0, 1).is(1);
    s.noCrossing(0, 1);
    s.view(-3, 0, 2).is(1);
    s.crossingIs(0, 1, 7, 8, 1, 4, 1);
    s.view(0, -2, 1).is(1);
    s.noCrossing(0, 1);
    s.view(0, -1, 1).is(1);
    s.crossingIs(0, 1, 1, 2, 1, 8, 1);
    s.view(0, 3, 1).is(1);
    s.crossingIs(0, 1, 1, 2, 5, 8, 1);
  }

  private static void nearerEdge() {
    Scene.sentence("The nearer edge is the one whose place there is the place of the other one plus a positive multiple of d");
    Scene s = pair(-2, 0, 0, 2, 0, 0, 0, -2, 1, 0, 6, 1);
    s.crossing(0, 1, 4).is(1);
    s.crossing(1, 0, 4).is(1);
    s.view(0, 0, -1).is(1);
    s.crossing(0, 1, 4).is(0);
    s.crossing(1, 0, 4).is(0);
    // Their ends tell nothing: edge 1 begins far above edge 0 and is below it where they cross.
    s = pair(-3, 0, 0, 3, 0, 0, 0, -1, 2, 0, 3, -9);
    s.crossingIs(0, 1, 1, 2, 1, 4, 0);
    // By a part of 1: at height 1/2 and 1/3.
    s = pair(0, 0, 0, 2, 0, 1, 1, -1, 0, 1, 2, 1);
    s.crossingIs(0, 1, 1, 2, 1, 3, 0);
    s.crossingIs(1, 0, 1, 3, 1, 2, 0);
    // For a view along the other axes, both ways.
    s = pair(-2, 3, 1, 2, 3, 1, 0, -1, -1, 0, -1, 2);
    s.view(0, 1, 0).is(1);
    s.crossing(0, 1, 4).is(0);
    s.view(0, -1, 0).is(1);
    s.crossing(0, 1, 4).is(1);
    s.turn(2).is(4);
    s.view(1, 0, 0).is(1);
    s.crossing(0, 1, 4).is(1);
    s.view(-1, 0, 0).is(1);
    s.crossing(0, 1, 4).is(0);
  }

  private static void samePlaceWhereTheyCross() {
    Scene.sentence("there is none if both places are the same");
    Scene s = pair(-2, 0, 0, 2, 0, 0, 0, -2, 0, 0, 6, 0);
    s.crossingIs(0, 1, 1, 2, 1, 4, N);
    s.crossingIs(1, 0, 1, 4, 1, 2, N);
    s.many(10).is(1);
    // They cross there from every side.
    s.view(3, 2, -1).is(1);
    s.crossingIs(0, 1, 1, 2, 1, 4, N);
    // A place that is the same and no point of the grid: both at (1, 0, 1/2).
    s = pair(0, 0, 0, 2, 0, 1, 1, -1, 0, 1, 1, 1);
    s.crossingIs(0, 1, 1, 2, 1, 2, N);
    s.view(1, 0, 1).is(1);
    s.crossingIs(0, 1, 1, 2, 1, 2, N);
    // But not along the plane in which both lie.
    s.view(1, 1, 1).is(1);
    s.noCrossing(0, 1);
    // It is a property of the places alone: with a step to the side the one is nearer again.
    s = pair(0, 0, 1, 2, 0, 1, 1, -1, 0, 1, 1, 1);
    s.crossingIs(0, 1, 1, 2, 1, 2, 0);
  }

  private static void eachPieceInOneStroke() {
    Scene.sentence("The visible pieces are joined to strokes, each piece in exactly one");
    Scene s = new Scene();
    s.block(-4, -4, -4, 3, 4, 5).is(8);
    s.block(-2, -2, 2, 4, 5, 6).is(8);
    s.view(1, 2, 3).is(1);
    int visible = s.many(5).got();
    int strokes = s.many(8).got();
    boolean[] seen = new boolean[100 * 64];
    int drawn = 0;
    for (int k = 0; k < strokes; k++) {
      int length = s.stroke(k, 0).got();
      Scene.due("a stroke has a piece", length > 0 ? 1 : 0, 1);
      for (int i = 0; i < length; i++) {
        int e = s.strokePiece(k, i, 0).got();
        int piece = s.strokePiece(k, i, 1).got();
        s.piece(e, piece, 4).is(0);
        Scene.due("piece " + piece + " of edge " + e + " is in a stroke already", seen[e * 64 + piece] ? 1 : 0, 0);
        seen[e * 64 + piece] = true;
        drawn++;
      }
    }
    Scene.due("pieces in strokes", drawn, visible);
    // Without a visible piece there is no stroke: no edges, and edges that are hidden or flat.
    s = new Scene();
    s.strokes(0);
    s.points(0, 0, 0, 1, 0, 0);
    s.strokes(0);
    s = wired(-1, 0, -1, 1, 0, -1);
    s.strokes(1);
    s.strokeIs(0, 0, 0, 0, 0, 1, 2, 0, 1, 1, 0, 0);
  }

  private static void lowestPieceFirst() {
    Scene.sentence("A stroke begins with the piece that is in no stroke yet and has the lowest edge (of several, the lowest piece), drawn from its lesser t to its greater t");
    Scene s = wired(-8, 0, -1, 8, 0, -1);
    s.strokes(3);
    s.strokeIs(0, 0, 0, 0, 0, 1, 2, 0, 1, 1, 0, 0);
    s.strokeIs(1, 3, N, 3, 0, 1);
    s.strokeIs(2, N, 4, 3, 2, 1);
    // Wires apart from one another, added the other way round.
    s = cube().wires(6, 7, 4, 5, 2, 3, 0, 1);
    s.strokes(4);
    for (int k = 0; k < 4; k++) {
      s.strokeIs(k, 2 * k, 2 * k + 1, k, 0, 1);
    }
  }

  private static void goesOnAtAPoint() {
    Scene.sentence("If the piece that was drawn last ends at a point (at t = 0 or t = 1), the stroke goes on from there");
    // On from t = 1 to an edge that begins there, and to one that ends there.
    Scene s = new Scene().points(0, 0, 0, 4, 0, 0, 4, 4, 0).wires(0, 1, 1, 2);
    s.strokes(1);
    s.strokeIs(0, 0, 2, 0, 0, 1, 1, 0, 1);
    s = new Scene().points(0, 0, 0, 4, 0, 0, 4, 4, 0, 8, 8, 0).wires(0, 2, 1, 2, 1, 3);
    s.strokes(1);
    // 1-2 is drawn from its greater t on, and ends at t = 0, from where 1-3 goes on.
    s.strokeIs(0, 0, 3, 0, 0, 1, 1, 0, 0, 2, 0, 1);
    // It doesn't go on from where it began: 0-1 could be joined to 0-2 there, but is drawn to 1.
    s = new Scene().points(0, 0, 0, 4, 0, 0, 4, 4, 0).wires(0, 1, 0, 2);
    s.strokes(2);
    s.strokeIs(0, 0, 1, 0, 0, 1);
    s.strokeIs(1, 0, 2, 1, 0, 1);
    // A piece that ends at a cut ends the stroke, even if the cut is at the place of a point.
    s = wired(0, 0, 4, 0, 0, -4).points(0, 0, 0, 9, 9, 9).wires(5, 6);
    s.strokes(3);
    s.piecesAre(3, 0, 1, 1, 2, 0, 1, 2, 1, 1, 1);
    s.strokeIs(1, 3, N, 3, 0, 1);
    s.strokeIs(2, 5, 6, 4, 0, 1);
    cutAtThePlaceOfAPoint();
  }

  /** Such a cut is at t = 1/2 of its edge, so it is at no point, whichever end of a stroke it is. */
  private static void cutAtThePlaceOfAPoint() {
    // A stroke ends at point 4, where the visible half of 5-6 begins: it does not go on with it.
    Scene s = wired(9, 9, 9, 0, 0, 0).points(0, 0, -4, 0, 0, 4).wires(5, 6);
    s.piecesAre(4, 0, 1, 1, 2, 1, 1, 2, 1, 1, 0);
    s.strokes(3);
    s.strokeIs(1, 3, 4, 3, 0, 1);
    s.strokeIs(2, N, 6, 4, 1, 1);
    // Nor if it would be drawn from its greater t on.
    s = wired(9, 9, 9, 0, 0, 0).points(0, 0, 4, 0, 0, -4).wires(5, 6);
    s.piecesAre(4, 0, 1, 1, 2, 0, 1, 2, 1, 1, 1);
    s.strokes(3);
    s.strokeIs(1, 3, 4, 3, 0, 1);
    s.strokeIs(2, 5, N, 4, 0, 1);
    // The edge with the cut, 3-4, is lower than 5-6, but at point 5 the stroke goes on with 5-6.
    s = corners().points(0, 0, 4, 0, 0, -4, 0, 0, 0, 9, 9, 9).faces(0, 1, 2).wires(0, 5, 3, 4, 5, 6);
    s.piecesAre(4, 0, 1, 1, 2, 0, 1, 2, 1, 1, 1);
    s.strokes(2);
    s.strokeIs(0, 0, 6, 0, 0, 1, 3, 0, 1, 1, 0, 0, 2, 0, 1, 5, 0, 1);
    s.strokeIs(1, 3, N, 4, 0, 1);
  }

  private static void goesOnWithTheLowest() {
    Scene.sentence("with that visible piece that is in no stroke yet, has an end at this point, and has the lowest edge (of several, the lowest piece)");
    // At point 1 edges 0-1, 1-2, 1-3 and 1-4 meet; the lowest that is left goes on.
    Scene s = new Scene().points(0, 0, 0, 1, 0, 0, 2, 1, 0, 3, 2, 0, 4, 9, 0).wires(1, 4, 1, 3, 1, 2, 0, 1);
    s.strokes(3);
    s.strokeIs(0, 0, 2, 0, 0, 1, 1, 0, 1);
    s.strokeIs(1, 1, 3, 2, 0, 1);
    s.strokeIs(2, 1, 4, 3, 0, 1);
    // The lowest one may be one that ends there: 1-3 before 2-3, and before 3-4.
    s = new Scene().points(0, 0, 0, 1, 5, 0, 2, 1, 0, 3, 2, 0, 4, 9, 0).wires(3, 4, 2, 3, 1, 3, 0, 3);
    s.strokes(2);
    s.strokeIs(0, 0, 1, 0, 0, 1, 1, 0, 0);
    s.strokeIs(1, 2, 4, 2, 0, 1, 3, 0, 1);
    // Edges: 3 3-4 with a visible end, 4 3-5 all hidden, 5 4-6 hidden in its middle, 6 5-6 with a visible end.
    s = wired(0, 0, -1, 8, 0, -1).points(0, 0, -5, -9, 0, -5).wires(3, 5, 5, 6, 4, 6);
    s.ofEdge(4, 5).is(0);
    s.strokes(3);
    s.strokeIs(1, N, N, 3, 1, 1, 5, 0, 1);
    s.strokeIs(2, N, N, 5, 2, 1, 6, 1, 0);
    // Edge 1-2 goes behind the face from its corner 1 on, and is visible only at its other end: at
    // point 1 the stroke goes on with 1-3, though 1-2 is lower and has a visible piece.
    s = new Scene().points(-4, -4, 0, 0, 4, 0, 0, -8, -4, 4, -4, 0).faces(0, 3, 1).wires(1, 2);
    s.piecesAre(2, 0, 1, 2, 3, 1, 2, 3, 1, 1, 0);
    s.strokes(2);
    s.strokeIs(0, 0, 0, 0, 0, 1, 3, 0, 1, 1, 0, 0);
    s.strokeIs(1, N, 2, 2, 1, 1);
  }

  private static void endsIfThereIsNone() {
    Scene.sentence("The stroke ends if there is none");
    // A closed stroke ends where it began; one more edge from there goes on.
    Scene s = triangle();
    s.strokes(1);
    s.strokeIs(0, 0, 0, 0, 0, 1, 2, 0, 1, 1, 0, 0);
    s.points(9, 9, 0).wires(0, 3);
    s.strokes(1);
    s.strokeIs(0, 0, 3, 0, 0, 1, 3, 0, 1, 1, 0, 0, 2, 0, 1);
    // A flat edge does not go on.
    s = new Scene().points(0, 0, 0, 4, 0, 0, 4, 4, 0, 0, 4, 0).faces(0, 1, 2, 0, 2, 3);
    s.strokes(1);
    s.strokeIs(0, 0, 0, 0, 0, 1, 3, 0, 1, 4, 0, 1, 2, 0, 0);
  }

  private static void notAtAPoint() {
    Scene.sentence("a stroke that does not begin or end at a point");
    // It begins at a cut and goes on beyond a point.
    Scene s = wired(0, 0, -1, 8, 0, -1).points(9, 9, 0).wires(4, 5);
    s.strokes(2);
    s.strokeIs(1, N, 5, 3, 1, 1, 4, 0, 1);
    // It begins at a point and ends at a cut, on an edge that is drawn from its greater t on.
    s = wired(0, 0, -1, 8, 0, -1).wires(1, 4);
    s.strokes(2);
    s.strokeIs(1, 1, N, 3, 0, 1, 4, 1, 0);
    // It begins and ends at a cut: the middle of a wire whose ends are hidden by two faces.
    s = new Scene().points(-8, 0, -1, 8, 0, -1).wires(0, 1);
    s.points(-9, -9, 0, -9, 9, 0, -4, 0, 0, 9, -9, 0, 9, 9, 0, 4, 0, 0).faces(2, 3, 4, 5, 6, 7);
    s.piecesAre(0, 0, 1, 1, 4, 1, 1, 4, 3, 4, 0, 3, 4, 1, 1, 1);
    s.strokeIs(0, N, N, 0, 1, 1);
    s.strokes(3);
    // It ends at a point 0, whose number is not taken for none.
    s = new Scene().points(0, 0, 0, 4, 0, 0, 4, 4, 0).wires(0, 1, 0, 2, 1, 2);
    s.strokes(1);
    s.stroke(0, 1).is(0);
    s.stroke(0, 2).is(0);
  }

  private static void faces() {
    twentyFourFaces();
    cornersInAnOrder();
    notOnALine();
    sameThreePoints();
    eightWires();
    oneWireBetweenTwo();
    whatAnEdgeIs();
    numbersOfEdges();
    eightyEdges();
    numbersChange();
  }

  private static void sorts() {
    sortOnlyAWire();
    sortBorder();
    sortFlat();
    sortOutline();
    sortFold();
    sortManyFaces();
    wireBesideFaces();
  }

  private static void visibility() {
    fromTheLesserPoint();
    edgeOnHidesNothing();
    leastTurn();
    fourNumbers();
    placesOnAnEdgeAtTheBorder();
    noStretchAtAll();
    twoDifferentFractions();
    stretchWithAnEnd();
    edgeWithoutStretch();
    cutsOnce();
    mostPieces();
    quantity();
    visiblePieces();
  }

  private static void crossings() {
    pointInCommon();
    parallelInTheView();
    withinBothEdges();
    onALineOfSight();
    nearerEdge();
    samePlaceWhereTheyCross();
  }

  private static void strokes() {
    eachPieceInOneStroke();
    lowestPieceFirst();
    goesOnAtAPoint();
    goesOnWithTheLowest();
    endsIfThereIsNone();
    notAtAPoint();
  }

  public static void main(String[] args) {
    lastOf512Calls();
    constants();
    noneOnlyWithoutError();
    lowestTerms();
    zeroIsZeroOverOne();
    sixteenPoints();
    coordinates();
    onePlaceOnePoint();
    faces();
    componentsOfTheView();
    firstView();
    signOfTheTurn();
    sorts();
    visibility();
    crossings();
    strokes();
    Scene.end();
  }
}
