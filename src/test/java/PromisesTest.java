/**
 * Each promise of the document by itself, with answers worked out by hand: ordinary calls, the
 * edges that the document names, and wrong arguments.
 */
public final class PromisesTest {
  private static final int U = -1, O = -2, S = -3, F = -4, N = -9;
  private static final int MIN = Integer.MIN_VALUE, MAX = Integer.MAX_VALUE;

  private static int wrong = 0;
  private static int promise = 0;

  private static void due(String what, int got, int want) {
    if (got != want) {
      wrong++;
      System.out.println("promise " + promise + ": " + what + " answered " + got + ", due is " + want);
    }
  }

  private static HiddenEdges start(int number) {
    promise = number;
    return new HiddenEdges();
  }

  private static void points(HiddenEdges x, int... coordinates) {
    for (int i = 0; i < coordinates.length; i += 3) {
      int before = x.many(0);
      due("point", x.point(coordinates[i], coordinates[i + 1], coordinates[i + 2]), before);
    }
  }

  private static void place(HiddenEdges x, int n, int px, int py, int pz) {
    due("x of point " + n, x.ofPoint(n, 0), px + 10);
    due("y of point " + n, x.ofPoint(n, 1), py + 10);
    due("z of point " + n, x.ofPoint(n, 2), pz + 10);
  }

  private static void counts(HiddenEdges x, int points, int faces, int wires, int edges) {
    due("points", x.many(0), points);
    due("faces", x.many(1), faces);
    due("wires", x.many(2), wires);
    due("edges", x.many(3), edges);
  }

  private static void piece(HiddenEdges x, int e, int k, int... want) {
    for (int what = 0; what < want.length; what++) {
      due("piece(" + e + ", " + k + ", " + what + ")", x.piece(e, k, what), want[what]);
    }
  }

  private static void stretch(HiddenEdges x, int e, int f, int... want) {
    for (int which = 0; which < want.length; which++) {
      due("stretch(" + e + ", " + f + ", " + which + ")", x.stretch(e, f, which), want[which]);
    }
  }

  private static void noStretch(HiddenEdges x, int e, int f) {
    stretch(x, e, f, N, N, N, N);
  }

  private static void crossing(HiddenEdges x, int e, int g, int... want) {
    for (int which = 0; which < want.length; which++) {
      due("crossing(" + e + ", " + g + ", " + which + ")", x.crossing(e, g, which), want[which]);
    }
  }

  private static void noCrossing(HiddenEdges x, int e, int g) {
    crossing(x, e, g, N, N, N, N, N);
    crossing(x, g, e, N, N, N, N, N);
  }

  private static void stroke(HiddenEdges x, int k, int... want) {
    for (int what = 0; what < want.length; what++) {
      due("stroke(" + k + ", " + what + ")", x.stroke(k, what), want[what]);
    }
  }

  private static void drawn(HiddenEdges x, int k, int i, int... want) {
    for (int what = 0; what < want.length; what++) {
      due("strokePiece(" + k + ", " + i + ", " + what + ")", x.strokePiece(k, i, what), want[what]);
    }
  }

  /** Points 0 to 2 and face 0: at height y its middle is 4 - y wide, from x = -(4 - y) / 2 on. */
  private static HiddenEdges triangle(int number) {
    HiddenEdges x = start(number);
    points(x, -4, -4, 0, 4, -4, 0, 0, 4, 0);
    due("face", x.face(0, 1, 2), 0);
    return x;
  }

  private static void newObject() {
    HiddenEdges x = start(1);
    for (int what = 0; what < 12; what++) {
      due("many(" + what + ")", x.many(what), 0);
    }
    due("ofPoint", x.ofPoint(0, 0), U);
    due("ofFace", x.ofFace(0, 0), U);
    due("ofEdge", x.ofEdge(0, 0), U);
    due("stroke", x.stroke(0, 0), U);
    points(x, 0, 0, 0, 1, 0, 0, 0, 1, 0);
    due("face", x.face(0, 1, 2), 0);
    due("turned to the eye at (0, 0, 1)", x.ofFace(0, 3), 1);
    due("turn at (0, 0, 1)", x.ofFace(0, 4), 1);
    due("UNKNOWN", HiddenEdges.UNKNOWN, U);
    due("OUTSIDE", HiddenEdges.OUTSIDE, O);
    due("STATE", HiddenEdges.STATE, S);
    due("FULL", HiddenEdges.FULL, F);
    due("NONE", HiddenEdges.NONE, N);
    HiddenEdges other = new HiddenEdges();
    due("points of another object", other.many(0), 0);
  }

  private static void point() {
    HiddenEdges x = start(2);
    due("least", x.point(-9, -9, -9), 0);
    due("greatest", x.point(9, 9, 9), 1);
    for (int far : new int[] {-10, 10, MIN, MAX}) {
      due("x", x.point(far, 0, 0), O);
      due("y", x.point(0, far, 0), O);
      due("z", x.point(0, 0, far), O);
    }
    due("same place", x.point(9, 9, 9), S);
    due("points", x.many(0), 2);
    for (int n = 2; n < 16; n++) {
      due("point", x.point(n - 9, 0, 1), n);
    }
    due("one more", x.point(0, 0, 0), F);
    due("same place when full", x.point(9, 9, 9), S);
    due("outside when full", x.point(10, 9, 9), O);
    due("points", x.many(0), 16);
    place(x, 0, -9, -9, -9);
    place(x, 15, 6, 0, 1);
  }

  private static void face() {
    HiddenEdges x = start(3);
    points(x, 0, 0, 0, 2, 0, 0, 4, 0, 0, 0, 3, 0, -2, -2, -2, 2, 2, 2);
    due("first", x.face(0, 1, 3), 0);
    for (int none : new int[] {-1, 6, MIN, MAX}) {
      due("p", x.face(none, 1, 3), U);
      due("q", x.face(0, none, 3), U);
      due("r", x.face(0, 1, none), U);
    }
    due("unknown and twice the same", x.face(0, 0, 6), U);
    due("along x", x.face(0, 1, 2), S);
    due("slanted line", x.face(4, 0, 5), S);
    due("p and q the same", x.face(0, 0, 3), S);
    due("q and r the same", x.face(3, 0, 0), S);
    due("p and r the same", x.face(0, 3, 0), S);
    due("the same points", x.face(0, 1, 3), S);
    due("the same points turned", x.face(1, 3, 0), S);
    due("the same points the other way", x.face(3, 1, 0), S);
    due("faces", x.many(1), 1);
    due("second", x.face(3, 2, 1), 1);
    due("its first corner", x.ofFace(1, 0), 3);
    due("its second corner", x.ofFace(1, 1), 2);
    due("its third corner", x.ofFace(1, 2), 1);

    x = start(3);
    due("block", x.block(-9, -9, -9, 2, 2, 2), 8);
    due("block", x.block(5, 5, 5, 2, 3, 4), 8);
    due("a new one when full", x.face(0, 1, 8), F);
    due("an old one when full", x.face(3, 2, 0), S);
    due("a line when full", x.face(3, 2, 2), S);
    due("unknown when full", x.face(0, 1, 16), U);
    due("cut", x.cut(), 23);
    due("the last one", x.face(0, 1, 8), 23);
    due("faces", x.many(1), 24);
  }

  private static void wire() {
    HiddenEdges x = start(4);
    points(x, 0, 0, 0, 1, 0, 0, 2, 0, 0, 3, 0, 0, 4, 0, 0);
    due("first", x.wire(1, 0), 1);
    due("second", x.wire(1, 2), 2);
    for (int none : new int[] {-1, 5, MIN, MAX}) {
      due("p", x.wire(none, 0), U);
      due("q", x.wire(0, none), U);
      due("both", x.wire(none, none), U);
    }
    due("again", x.wire(1, 0), S);
    due("the other way", x.wire(0, 1), S);
    due("to itself", x.wire(3, 3), S);
    due("third", x.wire(0, 2), 3);
    due("fourth", x.wire(0, 3), 4);
    due("fifth", x.wire(0, 4), 5);
    due("sixth", x.wire(1, 3), 6);
    due("seventh", x.wire(1, 4), 7);
    due("eighth", x.wire(2, 3), 8);
    due("ninth", x.wire(2, 4), F);
    due("again when full", x.wire(3, 2), S);
    due("to itself when full", x.wire(4, 4), S);
    due("unknown when full", x.wire(2, 5), U);
    counts(x, 5, 0, 8, 8);
  }

  private static void block() {
    HiddenEdges x = start(5);
    due("block", x.block(-1, -2, -3, 2, 3, 4), 8);
    place(x, 0, -1, -2, -3);
    place(x, 1, 1, -2, -3);
    place(x, 2, -1, 1, -3);
    place(x, 4, -1, -2, 1);
    place(x, 7, 1, 1, 1);
    counts(x, 8, 12, 0, 18);
    String corners = "023 031 457 476 015 054 267 273 046 062 137 175";
    for (int f = 0; f < 12; f++) {
      for (int i = 0; i < 3; i++) {
        due("corner " + i + " of face " + f, x.ofFace(f, i), corners.charAt(4 * f + i) - '0');
      }
    }
    for (int bad : new int[] {0, -1, 10, MIN, MAX}) {
      due("w", x.block(0, 0, 0, bad, 1, 1), O);
      due("h", x.block(0, 0, 0, 1, bad, 1), O);
      due("t", x.block(0, 0, 0, 1, 1, bad), O);
    }
    for (int bad : new int[] {-10, 9, 10, MIN, MAX}) {
      due("x", x.block(bad, 0, 0, 1, 1, 1), O);
      due("y", x.block(0, bad, 0, 1, 1, 1), O);
      due("z", x.block(0, 0, bad, 1, 1, 1), O);
    }
    due("beyond 9", x.block(1, 0, 0, 9, 1, 1), O);
    due("the same again", x.block(-1, -2, -3, 2, 3, 4), S);
    counts(x, 8, 12, 0, 18);
    blockBeside();
    blockFull();
    blockOnFace(corners);
  }

  /** Any one of the twelve faces is enough for STATE, in whatever order its corners are. */
  private static void blockOnFace(String corners) {
    for (int f = 0; f < 12; f++) {
      HiddenEdges x = start(5);
      points(x, 0, 0, 0, 2, 0, 0, 0, 3, 0, 2, 3, 0, 0, 0, 4, 2, 0, 4, 0, 3, 4, 2, 3, 4);
      int p = corners.charAt(4 * f) - '0';
      int q = corners.charAt(4 * f + 1) - '0';
      int r = corners.charAt(4 * f + 2) - '0';
      due("face", x.face(r, q, p), 0);
      due("block on face " + f, x.block(0, 0, 0, 2, 3, 4), S);
      due("another block", x.block(0, 0, 0, 2, 2, 3), 6);
    }
  }

  private static void blockBeside() {
    HiddenEdges x = start(5);
    due("block", x.block(0, 0, 0, 9, 9, 9), 8);
    due("clear", x.clear(), 12);
    due("block", x.block(0, 0, 0, 2, 2, 2), 8);
    due("beside in x: a side has the same faces", x.block(2, 0, 0, 2, 2, 2), S);
    due("beside in y", x.block(0, 2, 0, 2, 2, 2), S);
    due("beside in z", x.block(0, 0, -2, 2, 2, 2), S);
    due("with one edge in common", x.block(2, 2, 0, 2, 2, 2), 6);
    counts(x, 14, 24, 0, 35);
    due("its sort", x.ofEdge(x.edge(3, 7), 3), 5);
    due("its faces", x.ofEdge(x.edge(3, 7), 2), 4);
    due("the first new point is corner 1", x.ofPoint(8, 0), 14);
    place(x, 9, 2, 4, 0);
    due("corner 0 of its first face", x.ofFace(12, 0), 3);
    due("corner 2 of its first face", x.ofFace(12, 1), 9);

    x = start(5);
    points(x, 1, 1, 1, 0, 0, 0);
    due("with two points there already", x.block(0, 0, 0, 1, 1, 1), 6);
    due("its first corner", x.ofFace(0, 0), 1);
    due("its last corner", x.ofFace(2, 2), 0);
    for (int left = 11; left >= 0; left--) {
      due("cut", x.cut(), left);
    }
    due("with all points there already", x.block(0, 0, 0, 1, 1, 1), 0);
  }

  private static void blockFull() {
    HiddenEdges x = start(5);
    due("block", x.block(0, 0, 0, 1, 1, 1), 8);
    points(x, 9, 9, 9);
    due("one point too many", x.block(-5, -5, -5, 1, 1, 1), F);
    due("points", x.many(0), 9);
    due("a corner in common", x.block(-1, -1, -1, 1, 1, 1), 7);
    counts(x, 16, 24, 0, 36);
    due("faces full, and the same faces", x.block(0, 0, 0, 1, 1, 1), S);
    due("full", x.block(0, 0, 0, 2, 2, 2), F);
    due("full and outside", x.block(0, 0, 0, 2, 2, 10), O);
    due("cut", x.cut(), 23);
    due("eleven faces' room is not enough", x.block(-1, 0, 0, 1, 2, 1), F);

    x = start(5);
    points(x, 0, 0, 0, 1, 0, 0, 0, 1, 0);
    due("face", x.face(0, 1, 2), 0);
    due("thirteen faces then", x.block(0, 0, 0, 1, 1, 1), 5);
    due("a face with three of its points on the other diagonal is no hindrance", x.many(1), 13);
    due("one face too many", x.block(-1, -1, -1, 1, 1, 1), F);
  }

  private static void cut() {
    HiddenEdges x = start(6);
    due("nothing", x.cut(), S);
    x = triangle(6);
    points(x, 0, 0, 5);
    due("face", x.face(0, 1, 3), 1);
    due("wire", x.wire(0, 2), 1);
    due("cut", x.cut(), 1);
    counts(x, 4, 1, 1, 3);
    due("the first one stays", x.ofFace(0, 2), 2);
    due("the last one is gone", x.ofFace(1, 0), U);
    due("cut", x.cut(), 0);
    counts(x, 4, 0, 1, 1);
    due("no more", x.cut(), S);
    due("again", x.face(0, 1, 3), 0);
  }

  private static void clear() {
    HiddenEdges x = triangle(7);
    due("wire", x.wire(0, 1), 1);
    due("view", x.view(0, 0, -2), 1);
    due("clear", x.clear(), 1);
    counts(x, 0, 0, 0, 0);
    for (int what = 4; what < 12; what++) {
      due("many(" + what + ")", x.many(what), 0);
    }
    due("again", x.clear(), 0);
    points(x, 0, 0, 0, 1, 0, 0, 0, 1, 0);
    due("face", x.face(0, 1, 2), 0);
    due("the view stays", x.ofFace(0, 3), 2);
    due("the view stays", x.ofFace(0, 4), 2);
  }

  private static void view() {
    HiddenEdges x = triangle(8);
    due("from above", x.ofFace(0, 3), 1);
    for (int bad : new int[] {-4, 4, MIN, MAX}) {
      due("a", x.view(bad, 1, 1), O);
      due("b", x.view(1, bad, 1), O);
      due("c", x.view(1, 1, bad), O);
    }
    due("all 0", x.view(0, 0, 0), O);
    due("unchanged", x.ofFace(0, 4), 64);
    due("from below", x.view(3, -3, -3), 1);
    due("from below", x.ofFace(0, 3), 2);
    due("its turn", x.ofFace(0, 4), 192);
    due("from the side", x.view(1, 0, 0), 1);
    due("edge-on", x.ofFace(0, 3), 0);
  }

  private static void turn() {
    HiddenEdges x = start(9);
    points(x, 1, 2, 3, 0, 0, 0, 5, 0, 0, 0, 5, 0, 0, 0, 5);
    due("too little", x.turn(-1), O);
    due("too much", x.turn(4), O);
    due("far too much", x.turn(MAX), O);
    place(x, 0, 1, 2, 3);
    due("about x", x.turn(0), 3);
    place(x, 0, 1, -3, 2);
    place(x, 3, 0, 0, 5);
    place(x, 4, 0, -5, 0);
    due("about y", x.turn(1), 3);
    place(x, 0, 2, -3, -1);
    place(x, 2, 0, 0, -5);
    due("about z", x.turn(2), 3);
    place(x, 0, 3, 2, -1);
    place(x, 1, 0, 0, 0);
    due("mirrored", x.turn(3), 2);
    place(x, 0, 3, 2, 1);
    place(x, 2, 0, 0, 5);
    HiddenEdges y = triangle(9);
    points(y, 0, 0, -1);
    due("behind", y.ofPoint(3, 3), 1);
    due("view", y.view(0, 0, 1), 1);
    due("only the point off the plane moves", y.turn(3), 1);
    due("in front then", y.ofPoint(3, 3), 0);
    due("the corners keep their order", y.ofFace(0, 3), 1);
    due("about x", y.turn(0), 4);
    due("the view stays", y.ofFace(0, 3), 0);
    due("no points", new HiddenEdges().turn(0), 0);
  }

  private static void move() {
    HiddenEdges x = start(10);
    due("no points", x.move(18, -18, 18), 1);
    points(x, -9, 0, 0, 0, 9, 0);
    for (int bad : new int[] {-19, 19, MIN, MAX}) {
      due("x", x.move(bad, 0, 0), O);
      due("y", x.move(0, bad, 0), O);
      due("z", x.move(0, 0, bad), O);
    }
    due("outside before state", x.move(-1, 0, 19), O);
    due("x too small", x.move(-1, 0, 0), S);
    due("y too great", x.move(0, 1, 0), S);
    due("z too great", x.move(0, 0, 10), S);
    due("z too small", x.move(0, 0, -10), S);
    place(x, 0, -9, 0, 0);
    place(x, 1, 0, 9, 0);
    due("by nothing", x.move(0, 0, 0), 1);
    due("to the border", x.move(9, -18, -9), S);
    due("to the border", x.move(9, -9, -9), 1);
    place(x, 0, 0, -9, -9);
    place(x, 1, 9, 0, -9);
    due("to the other border", x.move(-9, 9, 18), 1);
    place(x, 0, -9, 0, 9);
    place(x, 1, 0, 9, 9);
    due("a point where one was before", x.point(0, -9, -9), 2);
  }

  private static void ofPoint() {
    HiddenEdges x = triangle(11);
    points(x, 0, 0, -1, 0, 0, 1, -2, 0, -5, 0, 0, 0, 3, 3, -3, 9, -9, 7);
    due("face behind", x.face(6, 0, 1), 1);
    place(x, 8, 9, -9, 7);
    due("behind one", x.ofPoint(3, 3), 1);
    due("in front", x.ofPoint(4, 3), 0);
    due("behind the border of one, inside of none", x.ofPoint(5, 3), 0);
    due("in the plane", x.ofPoint(6, 3), 0);
    due("a corner", x.ofPoint(0, 3), 0);
    due("beside", x.ofPoint(7, 3), 0);
    points(x, 0, -1, -9);
    due("behind two", x.ofPoint(9, 3), 2);
    due("edges of 0", x.ofPoint(0, 4), 3);
    due("edges of 2", x.ofPoint(2, 4), 2);
    due("edges of 8", x.ofPoint(8, 4), 0);
    due("a wire", x.wire(8, 0), 1);
    due("edges of 8", x.ofPoint(8, 4), 1);
    due("edges of 0", x.ofPoint(0, 4), 4);
    for (int none : new int[] {-1, 10, MIN, MAX}) {
      due("unknown", x.ofPoint(none, 0), U);
      due("unknown before outside", x.ofPoint(none, 5), U);
    }
    for (int bad : new int[] {-1, 5, MIN, MAX}) {
      due("outside", x.ofPoint(0, bad), O);
    }
  }

  private static void ofFace() {
    HiddenEdges x = triangle(12);
    due("face", x.ofFace(0, 0), 0);
    due("face", x.ofFace(0, 1), 1);
    due("face", x.ofFace(0, 2), 2);
    due("turned to the eye", x.ofFace(0, 3), 1);
    due("its turn", x.ofFace(0, 4), 64);
    points(x, 0, 0, 5);
    due("upright", x.face(3, 1, 0), 1);
    due("turned away", x.ofFace(1, 3), 2);
    due("its turn", x.ofFace(1, 4), 32);
    due("view", x.view(0, 2, 0), 1);
    due("edge-on", x.ofFace(0, 3), 0);
    due("its turn", x.ofFace(0, 4), 0);
    due("turned away", x.ofFace(1, 3), 1);
    due("its turn", x.ofFace(1, 4), 80);
    for (int none : new int[] {-1, 2, MIN, MAX}) {
      due("unknown", x.ofFace(none, 0), U);
      due("unknown before outside", x.ofFace(none, 5), U);
    }
    for (int bad : new int[] {-1, 5, MIN, MAX}) {
      due("outside", x.ofFace(0, bad), O);
    }
  }

  private static void ofEdge() {
    HiddenEdges x = start(13);
    points(x, 0, 0, 0, 4, 0, 0, 4, 4, 0, 0, 4, 0, 2, 2, 3, 2, 2, -3, 0, 0, 6);
    due("face", x.face(2, 1, 0), 0);
    due("face", x.face(0, 2, 3), 1);
    due("flat", x.ofEdge(x.edge(0, 2), 3), 2);
    due("flat edges have pieces", x.ofEdge(x.edge(0, 2), 4), 1);
    due("but none that is visible", x.ofEdge(x.edge(0, 2), 5), 0);
    due("border", x.ofEdge(x.edge(0, 1), 3), 1);
    due("its faces", x.ofEdge(x.edge(0, 1), 2), 1);
    due("one visible piece", x.ofEdge(x.edge(0, 1), 5), 1);
    due("face", x.face(1, 0, 4), 2);
    due("outline: face 0 is turned away, face 2 as well", x.ofEdge(x.edge(0, 1), 3), 4);
    due("cut", x.cut(), 2);
    due("face", x.face(0, 1, 4), 2);
    due("face 2 is turned to the eye", x.ofFace(2, 3), 1);
    due("outline", x.ofEdge(x.edge(0, 1), 3), 3);
    due("view", x.view(0, 0, -1), 1);
    due("outline from behind", x.ofEdge(x.edge(0, 1), 3), 3);
    due("view", x.view(0, 1, 0), 1);
    due("one edge-on, one turned away: a fold", x.ofEdge(x.edge(0, 1), 3), 4);
    due("view", x.view(0, -1, 0), 1);
    due("one edge-on, one to the eye: an outline", x.ofEdge(x.edge(0, 1), 3), 3);
    due("face", x.face(0, 1, 5), 3);
    due("three faces", x.ofEdge(x.edge(0, 1), 3), 5);
    due("its faces", x.ofEdge(x.edge(0, 1), 2), 3);
    due("no wire", x.ofEdge(x.edge(0, 1), 6), 0);
    due("wire", x.wire(1, 0), 1);
    due("a wire, too", x.ofEdge(x.edge(0, 1), 6), 1);
    due("three faces still", x.ofEdge(x.edge(0, 1), 3), 5);
    due("wire", x.wire(6, 5), 2);
    due("only a wire", x.ofEdge(x.edge(5, 6), 3), 0);
    due("its faces", x.ofEdge(x.edge(5, 6), 2), 0);
    due("its lesser point", x.ofEdge(x.edge(5, 6), 0), 5);
    due("its greater point", x.ofEdge(x.edge(5, 6), 1), 6);
    for (int none : new int[] {-1, x.many(3), MIN, MAX}) {
      due("unknown", x.ofEdge(none, 0), U);
      due("unknown before outside", x.ofEdge(none, 7), U);
    }
    for (int bad : new int[] {-1, 7, MIN, MAX}) {
      due("outside", x.ofEdge(0, bad), O);
    }
    // Two faces on the same side of their edge lie in one plane all the same.
    x = triangle(13);
    points(x, 0, 8, 0);
    due("face", x.face(1, 0, 3), 1);
    due("flat", x.ofEdge(x.edge(0, 1), 3), 2);
  }

  private static void edge() {
    HiddenEdges x = start(14);
    points(x, 0, 0, 0, 1, 0, 0, 0, 1, 0, 0, 0, 1, 5, 5, 5);
    due("wire", x.wire(3, 1), 1);
    due("the only one", x.edge(1, 3), 0);
    due("face", x.face(2, 4, 0), 0);
    due("0 2", x.edge(0, 2), 0);
    due("0 4", x.edge(4, 0), 1);
    due("1 3", x.edge(1, 3), 2);
    due("1 3", x.edge(3, 1), 2);
    due("2 4", x.edge(2, 4), 3);
    due("none", x.edge(0, 1), N);
    due("the same point", x.edge(2, 2), N);
    for (int none : new int[] {-1, 5, MIN, MAX}) {
      due("p", x.edge(none, 0), U);
      due("q", x.edge(0, none), U);
      due("both", x.edge(none, none), U);
    }
    due("cut", x.cut(), 0);
    due("renumbered", x.edge(1, 3), 0);
  }

  private static void stretch() {
    HiddenEdges x = triangle(15);
    // 3-4 behind, 5-6 in front, 7-8 through the plane, 9-10 in the plane.
    points(x, -8, 0, -1, 8, 0, -1, -8, 0, 1, 8, 0, 1, 0, 0, -2, 0, 0, 4, -8, -1, 0, 8, -1, 0);
    points(x, 0, -1, -3, 9, -1, -3);
    due("wire", x.wire(3, 4), 1);
    due("wire", x.wire(5, 6), 2);
    due("wire", x.wire(7, 8), 3);
    due("wire", x.wire(9, 10), 4);
    due("wire", x.wire(11, 12), 5);
    stretch(x, x.edge(3, 4), 0, 3, 8, 5, 8);
    noStretch(x, x.edge(5, 6), 0);
    stretch(x, x.edge(7, 8), 0, 0, 1, 1, 3);
    noStretch(x, x.edge(9, 10), 0);
    stretch(x, x.edge(11, 12), 0, 0, 1, 5, 18);
    noStretch(x, x.edge(0, 1), 0);
    due("from below", x.view(0, 0, -1), 1);
    noStretch(x, x.edge(3, 4), 0);
    stretch(x, x.edge(5, 6), 0, 3, 8, 5, 8);
    stretch(x, x.edge(7, 8), 0, 1, 3, 1, 1);
    due("edge-on", x.view(0, 1, 0), 1);
    noStretch(x, x.edge(5, 6), 0);
    due("the first", x.stretch(0, 0, 0), N);
    for (int none : new int[] {-1, 8, MIN, MAX}) {
      due("edge", x.stretch(none, 0, 0), U);
      due("edge before outside", x.stretch(none, 0, 4), U);
      due("face", x.stretch(0, none == 8 ? 1 : none, 0), U);
    }
    for (int bad : new int[] {-1, 4, MIN, MAX}) {
      due("outside before none", x.stretch(0, 0, bad), O);
    }
    stretchAtBorders();
  }

  private static void stretchAtBorders() {
    HiddenEdges x = triangle(15);
    // Along the triangle's side, to its corner only, and wholly inside.
    points(x, -8, -4, -2, 8, -4, -2, -8, 4, -2, 8, 4, -2, -1, 0, -2, 1, 0, -2, 0, 1, -7);
    due("wire", x.wire(3, 4), 1);
    due("wire", x.wire(5, 6), 2);
    due("wire", x.wire(7, 8), 3);
    noStretch(x, x.edge(3, 4), 0);
    noStretch(x, x.edge(5, 6), 0);
    stretch(x, x.edge(7, 8), 0, 0, 1, 1, 1);
    // A face that lies the other way hides the same.
    due("cut", x.cut(), 0);
    due("face", x.face(2, 1, 0), 0);
    due("turned away", x.ofFace(0, 3), 2);
    stretch(x, x.edge(7, 8), 0, 0, 1, 1, 1);
  }

  private static void hidden() {
    HiddenEdges x = triangle(16);
    points(x, -8, 0, -1, 8, 0, -1, -4, -4, 3, 4, -4, 3, 0, 4, 3);
    due("wire", x.wire(3, 4), 1);
    int e = x.edge(3, 4);
    due("before", x.hidden(e, 0, 1), 0);
    due("at the beginning", x.hidden(e, 3, 8), 0);
    due("just behind it", x.hidden(e, 376, 1000), 1);
    due("just before it", x.hidden(e, 374, 1000), 0);
    due("in the middle", x.hidden(e, 1, 2), 1);
    due("in the middle, not in lowest terms", x.hidden(e, 500, 1000), 1);
    due("at the end", x.hidden(e, 10, 16), 0);
    due("behind", x.hidden(e, 1, 1), 0);
    due("a second face", x.face(7, 6, 5), 1);
    due("by both", x.hidden(e, 1, 2), 2);
    due("the border of the first by the second, at its border", x.hidden(x.edge(0, 1), 1, 2), 0);
    due("up below 0", x.hidden(e, -1, 2), O);
    due("up above down", x.hidden(e, 3, 2), O);
    due("down 0", x.hidden(e, 0, 0), O);
    due("down below 0", x.hidden(e, -2, -1), O);
    due("down too great", x.hidden(e, 1, 1001), O);
    due("both far", x.hidden(e, MAX, MAX), O);
    due("both far", x.hidden(e, MIN, MIN), O);
    for (int none : new int[] {-1, x.many(3), MIN, MAX}) {
      due("unknown", x.hidden(none, 0, 1), U);
      due("unknown before outside", x.hidden(none, 0, 0), U);
    }
  }

  private static void piece() {
    HiddenEdges x = triangle(17);
    points(x, -8, 0, -1, 8, 0, -1, 0, -4, -2, 8, 0, -2, 0, 4, -2, 0, 0, -5);
    due("wire", x.wire(3, 4), 1);
    int e = x.edge(3, 4);
    due("pieces", x.ofEdge(e, 4), 3);
    piece(x, e, 0, 0, 1, 3, 8, 0);
    piece(x, e, 1, 3, 8, 5, 8, 1);
    piece(x, e, 2, 5, 8, 1, 1, 0);
    due("visible ones", x.ofEdge(e, 5), 2);
    due("one more", x.piece(e, 3, 0), U);
    due("one before", x.piece(e, -1, 0), U);
    due("far", x.piece(e, MAX, 0), U);
    due("far", x.piece(e, MIN, 0), U);
    due("no piece before outside", x.piece(e, 3, 5), U);
    for (int none : new int[] {-1, x.many(3), MIN, MAX}) {
      due("no edge", x.piece(none, 0, 0), U);
      due("no edge before outside", x.piece(none, 0, 5), U);
    }
    for (int bad : new int[] {-1, 5, MIN, MAX}) {
      due("outside", x.piece(e, 0, bad), O);
    }
    // A face in front of the right half: its stretch begins within the first one's, at x = 0.
    points(x, 0, -4, 6, 0, 4, 6, 8, 0, 6);
    due("face", x.face(9, 10, 11), 1);
    e = x.edge(3, 4);
    due("pieces", x.ofEdge(e, 4), 4);
    piece(x, e, 1, 3, 8, 1, 2, 1);
    piece(x, e, 2, 1, 2, 5, 8, 2);
    piece(x, e, 3, 5, 8, 1, 1, 1);
    // Beginnings and ends at one place give one cut.
    due("cut", x.cut(), 1);
    points(x, 0, -4, 2, 0, 4, 2);
    due("face", x.face(0, 12, 13), 1);
    due("face", x.face(1, 12, 13), 2);
    e = x.edge(3, 4);
    stretch(x, e, 1, 3, 8, 1, 2);
    stretch(x, e, 2, 1, 2, 5, 8);
    due("pieces", x.ofEdge(e, 4), 4);
    piece(x, e, 1, 3, 8, 1, 2, 2);
    piece(x, e, 2, 1, 2, 5, 8, 2);
  }

  private static void crossing() {
    HiddenEdges x = start(18);
    points(x, -2, 0, 0, 2, 0, 0, 0, -2, 1, 0, 6, 1);
    due("wire", x.wire(0, 1), 1);
    due("wire", x.wire(3, 2), 2);
    crossing(x, 0, 1, 1, 2, 1, 4, 1);
    crossing(x, 1, 0, 1, 4, 1, 2, 1);
    due("pairs", x.many(10), 1);
    due("from behind", x.view(0, 0, -3), 1);
    crossing(x, 0, 1, 1, 2, 1, 4, 0);
    crossing(x, 1, 0, 1, 4, 1, 2, 0);
    due("slanted", x.view(-1, 0, 1), 1);
    crossing(x, 0, 1, 3, 4, 1, 4, 1);
    due("the same edge", x.crossing(1, 1, 0), S);
    for (int bad : new int[] {-1, 5, MIN, MAX}) {
      due("outside", x.crossing(0, 1, bad), O);
      due("outside before state", x.crossing(1, 1, bad), O);
    }
    for (int none : new int[] {-1, 2, MIN, MAX}) {
      due("e", x.crossing(none, 0, 0), U);
      due("g", x.crossing(0, none, 0), U);
      due("unknown before outside", x.crossing(0, none, 5), U);
      due("unknown before state", x.crossing(none, none, 0), U);
    }
    crossingAtBorders();
    crossingNearer();
  }

  private static void crossingNearer() {
    HiddenEdges x = start(18);
    points(x, 0, 0, 0, 1, 1, 1, 1, 0, 0, 0, 1, 0);
    due("wire", x.wire(0, 1), 1);
    due("wire", x.wire(2, 3), 2);
    crossing(x, 0, 1, 1, 2, 1, 2, 0);
    // 0-1 lies at y = 3 and 2-3 at y = -1; turned about z, at x = -3 and x = 1.
    x.clear();
    points(x, -2, 3, 1, 2, 3, 1, 0, -1, -1, 0, -1, 2);
    due("wire", x.wire(0, 1), 1);
    due("wire", x.wire(2, 3), 2);
    due("view", x.view(0, 1, 0), 1);
    crossing(x, 0, 1, 1, 2, 2, 3, 0);
    due("view", x.view(0, -2, 0), 1);
    crossing(x, 0, 1, 1, 2, 2, 3, 1);
    due("about z", x.turn(2), 4);
    due("view", x.view(3, 0, 0), 1);
    crossing(x, 1, 0, 2, 3, 1, 2, 1);
    due("view", x.view(-1, 0, 0), 1);
    crossing(x, 1, 0, 2, 3, 1, 2, 0);
  }

  private static void crossingAtBorders() {
    HiddenEdges x = start(18);
    points(x, -2, 0, 0, 2, 0, 0, 0, -2, 0, 0, 2, 0, 2, 2, 5, -2, 4, -2, 6, 0, 1, 0, 0, 3, 0, 0, -3);
    due("wire", x.wire(0, 1), 1);
    due("wire", x.wire(2, 3), 2);
    crossing(x, 0, 1, 1, 2, 1, 2, N);
    due("pairs", x.many(10), 1);
    due("wire", x.wire(1, 4), 3);
    noCrossing(x, x.edge(0, 1), x.edge(1, 4));
    // In the view 7-8 is a dot on 0-1, 6-8 lies along it, and 3-7 only ends there.
    due("wire", x.wire(7, 8), 4);
    noCrossing(x, x.edge(0, 1), x.edge(7, 8));
    due("wire", x.wire(8, 6), 5);
    noCrossing(x, x.edge(0, 1), x.edge(6, 8));
    due("wire", x.wire(3, 7), 6);
    noCrossing(x, x.edge(0, 1), x.edge(3, 7));
    due("wire", x.wire(5, 6), 7);
    due("5-6 goes through 4 in the view", x.ofPoint(4, 1), 12);
    noCrossing(x, x.edge(1, 4), x.edge(5, 6));
    due("wire", x.wire(0, 5), 8);
    due("0-5 is parallel to 1-4", x.ofPoint(5, 0), x.ofPoint(0, 0));
    noCrossing(x, x.edge(0, 5), x.edge(1, 4));
    due("pairs", x.many(10), 1);
  }

  private static void stroke() {
    HiddenEdges x = triangle(19);
    due("strokes", x.many(8), 1);
    stroke(x, 0, 3, 0, 0);
    points(x, -8, 0, -1, 8, 0, -1);
    due("wire", x.wire(3, 4), 1);
    due("strokes", x.many(8), 3);
    stroke(x, 0, 3, 0, 0);
    stroke(x, 1, 1, 3, N);
    stroke(x, 2, 1, N, 4);
    for (int none : new int[] {-1, 3, MIN, MAX}) {
      due("unknown", x.stroke(none, 0), U);
      due("unknown before outside", x.stroke(none, 3), U);
    }
    for (int bad : new int[] {-1, 3, MIN, MAX}) {
      due("outside", x.stroke(0, bad), O);
    }
    due("clear", x.clear(), 1);
    points(x, -4, -4, 0, 4, -4, 0, 0, 4, 0, 0, 0, -5, 0, 0, 5);
    due("face", x.face(0, 1, 2), 0);
    due("wire", x.wire(3, 4), 1);
    stroke(x, 1, 1, N, 4);
    due("strokes", x.many(8), 2);
  }

  private static void strokePiece() {
    HiddenEdges x = triangle(20);
    // The triangle's edges are 0-1, 0-2 and 1-2: 0 to 1, then on from 1 to 2, and back from 2 to 0.
    drawn(x, 0, 0, 0, 0, 1);
    drawn(x, 0, 1, 2, 0, 1);
    drawn(x, 0, 2, 1, 0, 0);
    for (int none : new int[] {-1, 3, MIN, MAX}) {
      due("no piece", x.strokePiece(0, none, 0), U);
      due("no piece before outside", x.strokePiece(0, none, 3), U);
    }
    for (int none : new int[] {-1, 1, MIN, MAX}) {
      due("no stroke", x.strokePiece(none, 0, 0), U);
      due("no stroke before outside", x.strokePiece(none, 0, 3), U);
    }
    for (int bad : new int[] {-1, 3, MIN, MAX}) {
      due("outside", x.strokePiece(0, 0, bad), O);
    }
    // A wire from the hidden middle to corner 1, so that the stroke goes on to its second piece.
    points(x, 0, 0, -4, 9, -9, 9);
    due("wire", x.wire(3, 4), 1);
    due("wire", x.wire(4, 1), 2);
    due("wire", x.wire(3, 1), 3);
    // Edges: 0 0-1, 1 0-2, 2 1-2, 3 1-3, 4 1-4, 5 3-4.
    due("edges", x.many(3), 6);
    due("1-3 is hidden all along", x.piece(3, 0, 4), 1);
    due("strokes", x.many(8), 2);
    stroke(x, 0, 3, 0, 0);
    stroke(x, 1, 2, 1, N);
    drawn(x, 1, 0, 4, 0, 1);
    drawn(x, 1, 1, 5, 1, 0);
    // Two faces in one plane: the edge between them is in no stroke.
    due("clear", x.clear(), 1);
    points(x, 0, 0, 0, 4, 0, 0, 4, 4, 0, 0, 4, 0);
    due("face", x.face(0, 1, 2), 0);
    due("face", x.face(0, 2, 3), 1);
    due("strokes", x.many(8), 1);
    stroke(x, 0, 4, 0, 0);
    drawn(x, 0, 0, 0, 0, 1);
    drawn(x, 0, 1, 3, 0, 1);
    drawn(x, 0, 2, 4, 0, 1);
    drawn(x, 0, 3, 2, 0, 0);
    // A wire beside its two faces does not make it another sort.
    due("wire", x.wire(0, 2), 1);
    stroke(x, 0, 4, 0, 0);
  }

  private static void many() {
    HiddenEdges x = start(21);
    for (int bad : new int[] {-1, 12, MIN, MAX}) {
      due("outside", x.many(bad), O);
    }
    due("block", x.block(0, 0, 0, 2, 2, 2), 8);
    int[] front = {8, 12, 0, 18};
    for (int what = 0; what < front.length; what++) {
      due("many(" + what + ")", x.many(what), front[what]);
    }
    due("flat edges", x.many(6), 6);
    // Seen along z, the top is turned to the eye, the bottom away, and the sides are edge-on.
    due("outlines", x.many(7), 4);
    due("faces turned to the eye", x.many(9), 2);
    due("slanted", x.view(1, 1, 1), 1);
    due("outlines", x.many(7), 6);
    due("faces turned to the eye", x.many(9), 6);
    x = triangle(21);
    points(x, -8, 0, -1, 8, 0, -1);
    due("no piece hidden", x.many(11), 0);
    due("wire", x.wire(3, 4), 1);
    due("wires", x.many(2), 1);
    due("edges", x.many(3), 4);
    due("pieces", x.many(4), 6);
    due("visible ones", x.many(5), 5);
    due("strokes", x.many(8), 3);
    due("crossings", x.many(10), 2);
    due("greatest quantity", x.many(11), 1);
    points(x, -4, -4, 3, 4, -4, 3, 0, 4, 3);
    due("face", x.face(5, 6, 7), 1);
    due("greatest quantity", x.many(11), 2);
    due("crossings", x.many(10), 4);
    due("cut", x.cut(), 1);
    due("greatest quantity", x.many(11), 1);
    due("crossings", x.many(10), 2);
  }

  public static void main(String[] args) {
    newObject();
    point();
    face();
    wire();
    block();
    cut();
    clear();
    view();
    turn();
    move();
    ofPoint();
    ofFace();
    ofEdge();
    edge();
    stretch();
    hidden();
    piece();
    crossing();
    stroke();
    strokePiece();
    many();
    System.out.println(wrong == 0 ? "all answers are as due" : wrong + " answers are not as due");
    if (wrong != 0) {
      System.exit(1);
    }
  }
}
