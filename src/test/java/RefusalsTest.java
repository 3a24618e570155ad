import java.util.ArrayList;
import java.util.List;

/**
 * The lists of arguments and the 'Returns' rows of the document, promise by promise: a test for each
 * part of a row that names a boundary or a refusal. Then what the refusals of all methods share: the
 * order of the errors, and that a refused call changes nothing.
 */
public final class RefusalsTest {
  private static final int U = -1, O = -2, S = -3, F = -4, N = -9;
  private static final int MAX = Integer.MAX_VALUE;
  private static final String CORNERS = "023 031 457 476 015 054 267 273 046 062 137 175";

  private static Scene empty() {
    return new Scene();
  }

  /** A triangle turned to the eye and a wire behind it: edges 0-1, 0-2, 1-2 and 3-4. */
  private static Scene small() {
    return new Scene().points(-4, -4, 0, 4, -4, 0, 0, 4, 0, -8, 0, -1, 8, 0, -1).faces(0, 1, 2).wires(3, 4);
  }

  /** Eight corners of a cube, of which no three lie on a line. */
  private static Scene cube() {
    return new Scene().points(0, 0, 0, 2, 0, 0, 0, 2, 0, 2, 2, 0, 0, 0, 2, 2, 0, 2, 0, 2, 2, 2, 2, 2);
  }

  /** 16 points, 24 faces and 8 wires, seen along a slanted view. */
  private static Scene full() {
    Scene s = new Scene();
    s.block(-5, -5, -5, 3, 4, 5).is(8);
    s.block(-3, 1, 2, 5, 4, 3).is(8);
    s.view(1, 2, 3).is(1);
    return s.wires(0, 7, 8, 15, 0, 8, 1, 9, 2, 10, 3, 11, 4, 12, 5, 13);
  }

  private static void newObject() {
    Scene.sentence("1: Creates an object without points, faces and wires, with the initial view");
    for (int what = 0; what < 12; what++) {
      empty().many(what).is(0);
    }
    Scene s = empty();
    Scene.all(U, s.ofPoint(0, 0), s.ofFace(0, 0), s.ofEdge(0, 0), s.edge(0, 0), s.stretch(0, 0, 0), s.hidden(0, 0, 1));
    Scene.all(U, s.piece(0, 0, 0), s.crossing(0, 0, 0), s.stroke(0, 0), s.strokePiece(0, 0, 0), s.face(0, 0, 0), s.wire(0, 0));
    s.cut().is(S);
    s.clear().is(0);
    s.turn(0).is(0);
    s.move(18, 18, 18).is(1);
    // Another object does not share what this one keeps.
    s.points(1, 2, 3);
    s.view(1, 1, 1).is(1);
    empty().many(0).is(0);
    Scene other = empty().points(0, 0, 0, 1, 0, 0, 0, 1, 0).faces(0, 1, 2);
    other.ofFace(0, 4).is(1);
    s.counts(1, 0, 0, 0);
  }

  private static void pointOutside() {
    Scene.sentence("2: OUTSIDE if a coordinate is out of range");
    Scene s = empty();
    for (int far : Scene.beyond(-9, 9)) {
      Scene.all(O, s.point(far, 0, 0), s.point(0, far, 0), s.point(0, 0, far), s.point(far, far, far));
    }
    s.many(0).is(0);
    s.points(-9, 0, 0, 9, 0, 0, 0, -9, 0, 0, 9, 0, 0, 0, -9, 0, 0, 9);
  }

  private static void pointState() {
    Scene.sentence("2: STATE if there is a point at this place");
    Scene s = empty().points(0, 0, 0, -9, 9, 9);
    Scene.all(S, s.point(0, 0, 0), s.point(-9, 9, 9));
    s.many(0).is(2);
    s.clear().is(0);
    s.point(0, 0, 0).is(0);
  }

  private static void pointFull() {
    Scene.sentence("2: FULL if there are 16 points already");
    Scene s = empty();
    for (int n = 0; n < 15; n++) {
      s.point(n - 7, 0, 0).is(n);
    }
    s.point(0, 1, 0).is(15);
    Scene.all(F, s.point(0, 2, 0), s.point(9, 9, 9), s.point(-9, -9, -9));
    s.many(0).is(16);
    s.clear().is(0);
    s.point(0, 2, 0).is(0);
  }

  private static void faceUnknown() {
    Scene.sentence("3: UNKNOWN if there is no such point");
    Scene s = cube();
    for (int none : Scene.beyond(0, 7)) {
      Scene.all(U, s.face(none, 1, 2), s.face(0, none, 2), s.face(0, 1, none));
    }
    s.many(1).is(0);
    s.face(0, 1, 7).is(0);
    s.clear().is(1);
    s.face(0, 1, 7).is(U);
  }

  private static void faceStraight() {
    Scene.sentence("3: STATE if the three points lie on a straight line (also if two of them are the same)");
    Scene s = empty().points(-9, -9, -9, -3, -3, -3, 9, 9, 9, 9, 9, 8);
    Scene.all(S, s.face(0, 1, 2), s.face(2, 0, 1), s.face(1, 0, 2));
    Scene.all(S, s.face(0, 0, 1), s.face(0, 1, 0), s.face(1, 0, 0), s.face(3, 3, 3));
    s.many(1).is(0);
    s.face(0, 1, 3).is(0);
  }

  private static void faceThere() {
    Scene.sentence("3: STATE if there is a face with these three points");
    Scene s = cube().faces(0, 1, 2, 1, 2, 3);
    Scene.all(S, s.face(0, 1, 2), s.face(2, 1, 0), s.face(1, 2, 0), s.face(3, 1, 2), s.face(2, 3, 1));
    s.many(1).is(2);
    s.face(0, 1, 3).is(2);
    s.face(0, 2, 3).is(3);
  }

  private static void faceFull() {
    Scene.sentence("3: FULL if there are 24 faces already");
    Scene s = full();
    Scene.all(F, s.face(0, 1, 15), s.face(15, 1, 2));
    s.many(1).is(24);
    s.cut().is(23);
    s.face(0, 1, 15).is(23);
    s.face(15, 1, 2).is(F);
  }

  private static void wireUnknown() {
    Scene.sentence("4: UNKNOWN if there is no such point");
    Scene s = cube();
    for (int none : Scene.beyond(0, 7)) {
      Scene.all(U, s.wire(none, 1), s.wire(0, none), s.wire(none, none));
    }
    s.many(2).is(0);
    s.wire(7, 0).is(1);
  }

  private static void wireState() {
    Scene.sentence("4: STATE if both are the same, or if there is a wire between them");
    Scene s = cube();
    for (int n = 0; n < 8; n++) {
      s.wire(n, n).is(S);
    }
    s.wires(3, 6);
    Scene.all(S, s.wire(3, 6), s.wire(6, 3));
    s.many(2).is(1);
    // A face there is no hindrance.
    s.faces(0, 1, 2);
    s.wire(0, 1).is(2);
    s.wire(1, 0).is(S);
  }

  private static void wireFull() {
    Scene.sentence("4: Returns how many wires there are then; FULL if there are 8 wires already");
    Scene s = cube();
    for (int n = 0; n < 7; n++) {
      s.wire(n, n + 1).is(n + 1);
    }
    s.wire(7, 0).is(8);
    Scene.all(F, s.wire(0, 2), s.wire(2, 0), s.wire(1, 7));
    s.many(2).is(8);
    s.clear().is(0);
    s.points(0, 0, 0, 1, 0, 0);
    s.wire(0, 1).is(1);
  }

  private static void blockCorners() {
    Scene.sentence("5: For each corner in this order at whose place there is no point, a point is added; otherwise the point there is used");
    for (int there = 0; there < 8; there++) {
      Scene s = empty().points(corner(there, 0, -3, 2), corner(there, 1, -2, 3), corner(there, 2, -1, 4));
      s.block(-3, -2, -1, 2, 3, 4).is(7);
      s.many(0).is(8);
      // The corner that was there is point 0; the others follow in their order.
      int[] number = new int[8];
      int next = 1;
      for (int k = 0; k < 8; k++) {
        number[k] = k == there ? 0 : next++;
        s.place(number[k], corner(k, 0, -3, 2), corner(k, 1, -2, 3), corner(k, 2, -1, 4));
      }
      for (int f = 0; f < 12; f++) {
        s.corners(f, number[CORNERS.charAt(4 * f) - '0'], number[CORNERS.charAt(4 * f + 1) - '0'], number[CORNERS.charAt(4 * f + 2) - '0']);
      }
    }
    cube().block(0, 0, 0, 2, 2, 2).is(0);
    empty().block(0, 0, 0, 2, 2, 2).is(8);
  }

  private static int corner(int k, int bit, int from, int length) {
    return (k >> bit & 1) == 0 ? from : from + length;
  }

  private static void blockLengths() {
    Scene.sentence("5: OUTSIDE if a length is out of range");
    Scene s = empty();
    for (int far : Scene.beyond(1, 9)) {
      Scene.all(O, s.block(-9, -9, -9, far, 1, 1), s.block(-9, -9, -9, 1, far, 1), s.block(-9, -9, -9, 1, 1, far));
      Scene.all(O, s.block(9, 0, 0, far, 1, 1), s.block(0, 9, 0, 1, far, 1), s.block(0, 0, 9, 1, 1, far));
    }
    s.counts(0, 0, 0, 0);
    s.block(-9, -9, -9, 9, 9, 9).is(8);
    s.block(0, 0, 0, 1, 1, 1).is(7);
  }

  private static void blockPlace() {
    Scene.sentence("5: OUTSIDE if a corner would have a coordinate that is not from -9 to 9");
    Scene s = empty();
    for (int far : Scene.beyond(-9, 8)) {
      Scene.all(O, s.block(far, 0, 0, 1, 1, 1), s.block(0, far, 0, 1, 1, 1), s.block(0, 0, far, 1, 1, 1));
    }
    // The least corner is outside and the greatest one is not, and the other way round.
    Scene.all(O, s.block(-10, 0, 0, 9, 1, 1), s.block(0, -10, 0, 1, 9, 1), s.block(0, 0, -10, 1, 1, 9));
    Scene.all(O, s.block(1, 0, 0, 9, 1, 1), s.block(0, 1, 0, 1, 9, 1), s.block(0, 0, 1, 1, 1, 9));
    Scene.all(O, s.block(MAX, 0, 0, 9, 1, 1), s.block(0, MAX, 0, 1, 9, 1), s.block(0, 0, MAX, 1, 1, 9));
    s.counts(0, 0, 0, 0);
    s.block(8, 8, 8, 1, 1, 1).is(8);
    s.block(-9, -9, -9, 1, 1, 1).is(8);
    empty().block(0, 0, 0, 9, 9, 9).is(8);
  }

  private static void blockState() {
    Scene.sentence("5: STATE if there is a face with the same three points as one of these faces");
    for (int f = 0; f < 12; f++) {
      int p = CORNERS.charAt(4 * f) - '0', q = CORNERS.charAt(4 * f + 1) - '0', r = CORNERS.charAt(4 * f + 2) - '0';
      Scene s = cube().faces(q, p, r);
      s.block(0, 0, 0, 2, 2, 2).is(S);
      s.counts(8, 1, 0, 3);
      s.cut().is(0);
      s.block(0, 0, 0, 2, 2, 2).is(0);
    }
    // The other diagonal of a side, and a cut through the middle, are other faces.
    Scene s = cube().faces(0, 1, 2, 0, 3, 7, 1, 2, 4);
    s.block(0, 0, 0, 2, 2, 2).is(0);
    s.many(1).is(15);
    // Only three of its points are there, and make a face.
    s = empty().points(0, 0, 0, 0, 2, 0, 2, 2, 0).faces(0, 1, 2);
    s.block(0, 0, 0, 2, 2, 2).is(S);
    // The same side is the top of the block below.
    s.block(0, 0, -2, 2, 2, 2).is(S);
    s.counts(3, 1, 0, 3);
    s.block(0, 0, 0, 2, 1, 2).is(7);
  }

  private static void blockFullOfPoints() {
    Scene.sentence("5: FULL if there would be more than 16 points");
    Scene s = cube();
    s.points(9, 9, 9);
    s.block(-5, -5, -5, 2, 2, 2).is(F);
    s.counts(9, 0, 0, 0);
    // With one point in common there are just 16.
    s.block(-2, -2, -2, 2, 2, 2).is(7);
    s.counts(16, 12, 0, 18);
    // No more points are needed for this one.
    s.block(0, 0, 0, 2, 2, 2).is(0);
    s.counts(16, 24, 0, 36);
    s = cube();
    s.block(-5, -5, -5, 2, 2, 2).is(8);
    s.many(0).is(16);
  }

  private static void blockFullOfFaces() {
    Scene.sentence("5: FULL if there would be more than 24 faces");
    for (int before = 11; before <= 13; before++) {
      Scene s = cube();
      int made = 0;
      for (int p = 0; p < 8 && made < before; p++) {
        for (int q = p + 1; q < 8 && made < before; q++) {
          for (int r = q + 1; r < 8 && made < before; r++) {
            if (!isOfBlock(p, q, r)) {
              s.face(p, q, r).is(made);
              made++;
            }
          }
        }
      }
      s.block(0, 0, 0, 2, 2, 2).is(before <= 12 ? 0 : F);
      s.many(1).is(before <= 12 ? before + 12 : before);
      s.many(0).is(8);
    }
  }

  private static boolean isOfBlock(int p, int q, int r) {
    for (int f = 0; f < 12; f++) {
      String three = CORNERS.substring(4 * f, 4 * f + 3);
      if (three.indexOf('0' + p) >= 0 && three.indexOf('0' + q) >= 0 && three.indexOf('0' + r) >= 0) {
        return true;
      }
    }
    return false;
  }

  private static void cutState() {
    Scene.sentence("6: Returns how many faces are left; STATE if there is none");
    empty().cut().is(S);
    Scene s = small();
    s.cut().is(0);
    s.cut().is(S);
    s.counts(5, 0, 1, 1);
    s.faces(0, 1, 2);
    s.clear().is(1);
    s.cut().is(S);
    s = full();
    for (int left = 23; left >= 0; left--) {
      s.cut().is(left);
    }
    s.cut().is(S);
    s.counts(16, 0, 8, 8);
  }

  private static void cutLast() {
    Scene.sentence("6: Removes the last face");
    Scene s = cube().faces(0, 1, 2, 5, 6, 7, 3, 4, 5);
    s.cut().is(2);
    s.ofFace(2, 0).is(U);
    s.corners(0, 0, 1, 2);
    s.corners(1, 5, 6, 7);
    s.counts(8, 2, 0, 6);
    // What the face did goes with it.
    s = small();
    s.many(11).is(1);
    s.cut().is(0);
    s.many(11).is(0);
    s.hidden(0, 1, 2).is(0);
  }

  private static void clearAll() {
    Scene.sentence("7: Removes all points, faces and wires. Returns how many faces there were");
    empty().clear().is(0);
    Scene s = full();
    s.clear().is(24);
    for (int what = 0; what < 12; what++) {
      s.many(what).is(0);
    }
    s.clear().is(0);
    // The whole room is there again.
    for (int n = 0; n < 16; n++) {
      s.point(n % 4, n / 4, n * n % 9).is(n);
    }
    s.wires(0, 1, 0, 2, 0, 3, 0, 4, 0, 5, 0, 6, 0, 7, 0, 8);
    s.clear().is(0);
    s.block(0, 0, 0, 1, 1, 1).is(8);
    s.clear().is(12);
  }

  private static void clearKeepsTheView() {
    Scene.sentence("7: The view stays");
    Scene s = small();
    s.view(0, 3, -2).is(1);
    s.clear().is(1);
    s.points(0, 0, 0, 1, 0, 0, 0, 1, 0, 0, 0, 1).faces(0, 2, 3, 0, 3, 1, 0, 1, 2);
    s.ofFace(0, 4).is(0);
    s.ofFace(1, 4).is(3);
    s.ofFace(2, 4).is(2);
    s.ofFace(2, 3).is(2);
  }

  private static void viewOutside() {
    Scene.sentence("8: Returns 1; OUTSIDE if a component is out of range, or all are 0");
    Scene s = small();
    for (int far : Scene.beyond(-3, 3)) {
      Scene.all(O, s.view(far, 0, 1), s.view(0, far, 1), s.view(1, 0, far), s.view(far, far, far));
    }
    s.view(0, 0, 0).is(O);
    s.ofFace(0, 4).is(64);
    for (int c = -3; c <= 3; c++) {
      s.view(c, 0, 0).is(c == 0 ? O : 1);
      s.view(0, c, 0).is(c == 0 ? O : 1);
      s.view(0, 0, c).is(c == 0 ? O : 1);
      // When all are 0, the view (0, 0, -1) from before stays.
      s.ofFace(0, 4).is(64 * Math.max(Math.abs(c), 1));
    }
  }

  private static void turnOutside() {
    Scene.sentence("9: OUTSIDE if how is not 0 to 3");
    Scene s = empty().points(1, 2, 3);
    for (int bad : Scene.beyond(0, 3)) {
      s.turn(bad).is(O);
    }
    s.place(0, 1, 2, 3);
    s.turn(0).is(1);
    s.place(0, 1, -3, 2);
    s.turn(1).is(1);
    s.place(0, 2, -3, -1);
    s.turn(2).is(1);
    s.place(0, 3, 2, -1);
    s.turn(3).is(1);
    s.place(0, 3, 2, 1);
  }

  private static void turnCounts() {
    Scene.sentence("9: Returns how many points are at another place then");
    for (int how = 0; how < 4; how++) {
      empty().turn(how).is(0);
      empty().points(0, 0, 0).turn(how).is(0);
    }
    // A point on the axis stays, and so does one in the mirror's plane.
    empty().points(9, 0, 0, 0, 9, 0, 0, 0, 9).turn(0).is(2);
    empty().points(0, 9, 0, 9, 0, 0, 0, 0, 9).turn(1).is(2);
    empty().points(0, 0, 9, 9, 0, 0, 0, 9, 0).turn(2).is(2);
    empty().points(9, 9, 0, -9, 9, 0, 0, 0, 0).turn(3).is(0);
    // Two points that change their places are both at another place.
    Scene s = empty().points(1, 2, 5, 1, 2, -5, 1, 2, 0);
    s.turn(3).is(2);
    s.place(0, 1, 2, -5);
    s.place(1, 1, 2, 5);
    // The outermost points stay within the range.
    for (int how = 0; how < 3; how++) {
      s = empty().points(9, 9, 9, -9, -9, -9, 9, -9, 9, -9, 9, -9);
      Scene.all(4, s.turn(how), s.turn(how), s.turn(how), s.turn(how));
      s.place(0, 9, 9, 9);
      s.place(3, -9, 9, -9);
    }
  }

  private static void turnKeepsTheView() {
    Scene.sentence("9: The view stays");
    Scene s = small();
    s.turn(0).is(5);
    s.ofFace(0, 3).is(0);
    s.view(0, -1, 0).is(1);
    s.ofFace(0, 3).is(1);
    s.turn(0).is(5);
    s.ofFace(0, 3).is(0);
    // A reflection turns what was in front to the back: the wire behind the face is before it then.
    s = small();
    s.many(11).is(1);
    s.turn(3).is(2);
    s.many(11).is(0);
    s.ofFace(0, 3).is(1);
  }

  private static void moveOutside() {
    Scene.sentence("10: OUTSIDE if an argument is out of range");
    Scene s = empty();
    for (int far : Scene.beyond(-18, 18)) {
      Scene.all(O, s.move(far, 0, 0), s.move(0, far, 0), s.move(0, 0, far));
    }
    Scene.all(1, s.move(18, 18, 18), s.move(-18, -18, -18), s.move(0, 0, 0));
    // As far as a point can go.
    s.points(-9, -9, -9);
    s.move(18, 18, 18).is(1);
    s.place(0, 9, 9, 9);
    s.move(-18, -18, -18).is(1);
    s.place(0, -9, -9, -9);
    Scene.all(O, s.move(19, 0, 0), s.move(0, 19, 0), s.move(0, 0, 19));
    s.place(0, -9, -9, -9);
  }

  private static void moveState() {
    Scene.sentence("10: STATE if some point would have a coordinate that is not from -9 to 9");
    Scene s = empty().points(0, 0, 0, -8, -7, -6, 8, 7, 6, 0, 0, 1);
    Scene.all(S, s.move(2, 0, 0), s.move(0, 3, 0), s.move(0, 0, 4), s.move(-2, 0, 0), s.move(0, -3, 0), s.move(0, 0, -4));
    s.place(0, 0, 0, 0);
    s.place(1, -8, -7, -6);
    s.place(3, 0, 0, 1);
    s.move(1, 2, 3).is(1);
    s.place(2, 9, 9, 9);
    s.move(-2, -4, -6).is(1);
    s.place(1, -9, -9, -9);
    // The point that is too far may be the first or the last one.
    empty().points(9, 0, 0, 0, 0, 0).move(1, 0, 0).is(S);
    empty().points(0, 0, 0, 9, 0, 0).move(1, 0, 0).is(S);
  }

  /** Refuses every number that is not from 0 to the last one of a property. */
  private interface Property {
    Scene.Answer of(Scene s, int what);
  }

  private static void outside(int last, Property property) {
    Scene s = small();
    for (int bad : Scene.beyond(0, last)) {
      property.of(s, bad).is(O);
    }
    for (int what = 0; what <= last; what++) {
      Scene.Answer answer = property.of(s, what);
      Scene.due(answer.call() + " is within the range", answer.got() == O ? 1 : 0, 0);
    }
  }

  private static void ofPointRow() {
    Scene.sentence("11: UNKNOWN if there is no such point");
    Scene s = small();
    for (int none : Scene.beyond(0, 4)) {
      for (int what = 0; what < 5; what++) {
        s.ofPoint(none, what).is(U);
      }
    }
    s.ofPoint(4, 0).is(18);
    Scene.sentence("11: OUTSIDE if what is not 0 to 4");
    outside(4, (x, what) -> x.ofPoint(0, what));
    Scene.sentence("11: its coordinate + 10");
    s = empty().points(-9, 0, 9, 9, -9, 0);
    Scene.all(1, s.ofPoint(0, 0), s.ofPoint(1, 1));
    Scene.all(10, s.ofPoint(0, 1), s.ofPoint(1, 2));
    Scene.all(19, s.ofPoint(0, 2), s.ofPoint(1, 0));
    Scene.sentence("11: by how many faces it is hidden");
    s = small();
    Scene.all(0, s.ofPoint(0, 3), s.ofPoint(3, 3));
    // A point that is added after others were asked for.
    s.points(0, 0, -2, 0, 0, 2);
    s.ofPoint(5, 3).is(1);
    s.ofPoint(6, 3).is(0);
    s.turn(3).is(4);
    s.ofPoint(5, 3).is(0);
    s.ofPoint(6, 3).is(1);
    s.cut().is(0);
    s.ofPoint(6, 3).is(0);
    Scene.sentence("11: of how many edges it is one of the points");
    s = full();
    s.ofPoint(0, 4).is(8);
    s.ofPoint(6, 4).is(4);
    s.ofPoint(15, 4).is(7);
    s = empty().points(0, 0, 0, 1, 0, 0).wires(1, 0);
    Scene.all(1, s.ofPoint(0, 4), s.ofPoint(1, 4));
    empty().points(0, 0, 0).ofPoint(0, 4).is(0);
  }

  private static void ofFaceRow() {
    Scene.sentence("12: UNKNOWN if there is no such face");
    Scene s = small();
    for (int none : Scene.beyond(0, 0)) {
      for (int what = 0; what < 5; what++) {
        s.ofFace(none, what).is(U);
      }
    }
    s.cut().is(0);
    s.ofFace(0, 0).is(U);
    s = full();
    s.ofFace(23, 0).is(9);
    s.ofFace(24, 0).is(U);
    Scene.sentence("12: OUTSIDE if what is not 0 to 4");
    outside(4, (x, what) -> x.ofFace(0, what));
  }

  private static void ofEdgeRow() {
    Scene.sentence("13: UNKNOWN if there is no such edge");
    Scene s = small();
    for (int none : Scene.beyond(0, 3)) {
      for (int what = 0; what < 7; what++) {
        s.ofEdge(none, what).is(U);
      }
    }
    s.ofEdge(3, 0).is(3);
    s.cut().is(0);
    s.ofEdge(1, 0).is(U);
    s.ofEdge(0, 0).is(3);
    Scene.sentence("13: OUTSIDE if what is not 0 to 6");
    outside(6, (x, what) -> x.ofEdge(0, what));
  }

  private static void edgeRow() {
    Scene.sentence("14: NONE if there is none (also if both points are the same)");
    Scene s = small();
    Scene.all(N, s.edge(0, 3), s.edge(4, 2), s.edge(0, 0), s.edge(4, 4));
    s.edge(4, 3).is(3);
    Scene.sentence("14: UNKNOWN if there is no such point");
    for (int none : Scene.beyond(0, 4)) {
      Scene.all(U, s.edge(none, 0), s.edge(0, none), s.edge(none, none));
    }
    empty().edge(0, 0).is(U);
  }

  private static void stretchRow() {
    Scene.sentence("15: NONE if there is no such stretch");
    Scene s = small();
    s.noStretch(0, 0);
    s.stretchIs(3, 0, 3, 8, 5, 8);
    Scene.sentence("15: UNKNOWN if there is no such edge or face");
    for (int none : Scene.beyond(0, 3)) {
      s.stretch(none, 0, 0).is(U);
    }
    for (int none : Scene.beyond(0, 0)) {
      s.stretch(3, none, 0).is(U);
      s.stretch(4, none, 0).is(U);
    }
    Scene.sentence("15: OUTSIDE if which is not 0 to 3");
    outside(3, (x, which) -> x.stretch(3, 0, which));
    outside(3, (x, which) -> x.stretch(0, 0, which));
  }

  private static void hiddenRow() {
    Scene.sentence("16: UNKNOWN if there is no such edge");
    Scene s = small();
    for (int none : Scene.beyond(0, 3)) {
      s.hidden(none, 1, 2).is(U);
    }
    s.hidden(3, 1, 2).is(1);
    Scene.sentence("16: OUTSIDE if down is out of range (1 to 1000)");
    for (int bad : Scene.beyond(1, 1000)) {
      Scene.all(O, s.hidden(3, 0, bad), s.hidden(3, 1, bad), s.hidden(3, bad, bad));
    }
    Scene.all(0, s.hidden(3, 0, 1), s.hidden(3, 1, 1), s.hidden(3, 0, 1000), s.hidden(3, 1000, 1000));
    s.hidden(3, 500, 1000).is(1);
    Scene.sentence("16: OUTSIDE if up is out of range (0 to down)");
    for (int down : new int[] {1, 2, 999, 1000}) {
      for (int bad : Scene.beyond(0, down)) {
        s.hidden(3, bad, down).is(O);
      }
    }
    // The greatest numbers that a scene can have, at the greatest denominator.
    s = empty().points(-9, -9, 9, 9, -9, -9, -9, 9, -9, -9, -9, -9, 9, 9, 9).faces(0, 1, 2).wires(3, 4);
    s.view(3, 3, 3).is(1);
    s.stretchIs(3, 0, 0, 1, 1, 3);
    Scene.all(1, s.hidden(3, 0, 1000), s.hidden(3, 333, 1000));
    Scene.all(0, s.hidden(3, 1, 3), s.hidden(3, 334, 1000), s.hidden(3, 1000, 1000));
  }

  private static void pieceRow() {
    Scene.sentence("17: UNKNOWN if there is no such edge or piece");
    Scene s = small();
    for (int none : Scene.beyond(0, 3)) {
      s.piece(none, 0, 0).is(U);
    }
    for (int none : Scene.beyond(0, 2)) {
      s.piece(3, none, 0).is(U);
    }
    // Another edge has other pieces.
    Scene.all(U, s.piece(0, 1, 0), s.piece(0, 2, 4));
    s.piece(3, 2, 2).is(1);
    s.piece(0, 1, 0).is(U);
    Scene.sentence("17: OUTSIDE if what is not 0 to 4");
    outside(4, (x, what) -> x.piece(3, 2, what));
    outside(4, (x, what) -> x.piece(0, 0, what));
  }

  private static void crossingRow() {
    Scene.sentence("18: NONE if they do not cross");
    Scene s = small();
    s.noCrossing(0, 3);
    s.noCrossing(0, 1);
    s.crossingIs(1, 3, 1, 2, 3, 8, 1);
    Scene.sentence("18: UNKNOWN if there is no such edge");
    for (int none : Scene.beyond(0, 3)) {
      Scene.all(U, s.crossing(none, 0, 0), s.crossing(0, none, 0), s.crossing(none, none, 4));
    }
    Scene.sentence("18: OUTSIDE if which is not 0 to 4");
    outside(4, (x, which) -> x.crossing(1, 3, which));
    outside(4, (x, which) -> x.crossing(0, 3, which));
    Scene.sentence("18: STATE if both are the same edge");
    for (int e = 0; e < 4; e++) {
      for (int which = 0; which < 5; which++) {
        s.crossing(e, e, which).is(S);
      }
    }
    Scene.sentence("18: the nearer edge, or NONE if there is none");
    s = empty().points(-2, 0, 0, 2, 0, 0, 0, -2, 0, 0, 2, 0).wires(0, 1, 2, 3);
    s.crossingIs(0, 1, 1, 2, 1, 2, N);
    // Edge 0 may be the nearer one; its number is no error.
    s = empty().points(-2, 0, 1, 2, 0, 1, 0, -2, 0, 0, 2, 0).wires(0, 1, 2, 3);
    s.crossingIs(0, 1, 1, 2, 1, 2, 0);
    s.crossingIs(1, 0, 1, 2, 1, 2, 0);
  }

  private static void strokeRow() {
    Scene.sentence("19: UNKNOWN if there is no such stroke");
    Scene s = small();
    for (int none : Scene.beyond(0, 2)) {
      for (int what = 0; what < 3; what++) {
        s.stroke(none, what).is(U);
      }
    }
    s.stroke(2, 0).is(1);
    empty().stroke(0, 0).is(U);
    Scene.sentence("19: OUTSIDE if what is not 0 to 2");
    outside(2, (x, what) -> x.stroke(0, what));
    outside(2, (x, what) -> x.stroke(1, what));
    Scene.sentence("19: the point at which it begins, or NONE if it does not begin at a point");
    s.stroke(0, 1).is(0);
    s.stroke(1, 1).is(3);
    s.stroke(2, 1).is(N);
    Scene.sentence("19: the point at which it ends, or NONE");
    s.stroke(0, 2).is(0);
    s.stroke(1, 2).is(N);
    s.stroke(2, 2).is(4);
  }

  private static void strokePieceRow() {
    Scene.sentence("20: UNKNOWN if there is no such stroke, or no such piece in it");
    Scene s = small();
    for (int none : Scene.beyond(0, 2)) {
      s.strokePiece(none, 0, 0).is(U);
      s.strokePiece(0, none, 0).is(U);
    }
    for (int none : Scene.beyond(0, 0)) {
      Scene.all(U, s.strokePiece(1, none, 1), s.strokePiece(2, none, 2));
    }
    s.strokePiece(0, 2, 0).is(1);
    Scene.sentence("20: OUTSIDE if what is not 0 to 2");
    outside(2, (x, what) -> x.strokePiece(0, 2, what));
    Scene.sentence("20: 1 if it is drawn from its lesser t on, 0 if from its greater t on");
    s.strokeIs(0, 0, 0, 0, 0, 1, 2, 0, 1, 1, 0, 0);
    s.strokeIs(2, N, 4, 3, 2, 1);
  }

  private static void manyRow() {
    Scene.sentence("21: OUTSIDE if what is not 0 to 11");
    outside(11, (x, what) -> x.many(what));
    for (int bad : Scene.beyond(0, 11)) {
      empty().many(bad).is(O);
    }
    Scene.sentence("21: the greatest quantity of a piece, or 0 if there is no piece");
    empty().many(11).is(0);
    empty().points(0, 0, 0, 1, 0, 0).many(11).is(0);
    Scene s = small();
    s.many(11).is(1);
    s.turn(3).is(2);
    s.many(11).is(0);
    Scene.sentence("21: pairs of edges that cross");
    s = empty().points(-3, 0, 0, 3, 0, 0, -1, -3, 1, -1, 3, 1, 1, -3, 2, 1, 3, 2);
    s.many(10).is(0);
    s.wires(0, 1);
    s.many(10).is(0);
    s.wires(2, 3);
    s.many(10).is(1);
    s.wires(4, 5);
    s.many(10).is(2);
    s.wires(2, 5);
    s.many(10).is(3);
    s.clear().is(0);
    s.many(10).is(0);
  }

  /** A call of which more than one error is true. */
  private static void errorsInOrder() {
    Scene.sentence("If several errors apply to one call, the one that the method names first is returned: point");
    Scene s = full();
    Scene.all(O, s.point(10, 0, 0), s.point(0, -10, 0), s.point(0, 0, MAX));
    Scene.all(S, s.point(-5, -5, -5), s.point(2, 5, 5));
    s.point(9, 9, 9).is(F);

    Scene.sentence("If several errors apply to one call, the one that the method names first is returned: face");
    Scene.all(U, s.face(16, 16, 0), s.face(0, 0, 16), s.face(0, 1, -1), s.face(16, 2, 3));
    Scene.all(S, s.face(0, 0, 1), s.face(3, 3, 3), s.face(3, 2, 0), s.face(0, 2, 3));
    s.face(0, 1, 15).is(F);
    small().face(0, 0, 5).is(U);

    Scene.sentence("If several errors apply to one call, the one that the method names first is returned: wire");
    Scene.all(U, s.wire(16, 16), s.wire(-1, -1), s.wire(0, 16), s.wire(16, 0));
    Scene.all(S, s.wire(3, 3), s.wire(7, 0), s.wire(0, 7));
    s.wire(6, 7).is(F);
    small().wire(5, 5).is(U);

    Scene.sentence("If several errors apply to one call, the one that the method names first is returned: block");
    // The bottom or another side is there already, and a length or the opposite corner is out of range.
    Scene.all(O, s.block(-5, -5, -5, 3, 4, 10), s.block(-5, -5, -5, 3, 10, 5), s.block(-5, -5, -5, 10, 4, 5));
    Scene.all(O, s.block(-5, -5, -5, 3, 4, 0), s.block(0, 0, 0, 10, 1, 1), s.block(9, 9, 9, 1, 1, 1));
    Scene.all(S, s.block(-5, -5, -5, 3, 4, 5), s.block(-5, -5, -5, 3, 4, 4), s.block(-5, -5, -5, 3, 4, 9), s.block(-5, -9, -5, 3, 4, 5));
    s.block(0, 0, 0, 1, 1, 1).is(F);
    blockOrder();
    moveOrder();
    askingOrder();
  }

  private static void blockOrder() {
    // A side that lies so far out that the block beyond it would leave the range.
    Scene s = empty();
    s.block(5, 5, 5, 4, 4, 4).is(8);
    Scene.all(O, s.block(9, 5, 5, 4, 4, 4), s.block(5, 9, 5, 4, 4, 4), s.block(5, 5, 9, 4, 4, 4));
    // STATE with room for neither points nor faces, with room for points, and with room for faces.
    s.block(1, 5, 5, 4, 4, 4).is(S);
    s.points(-9, 0, 0, -8, 0, 0, -7, 0, 0, -6, 0, 0, -5, 0, 0);
    s.block(1, 5, 5, 4, 4, 4).is(S);
    s.block(1, 1, 1, 4, 4, 4).is(F);
    s.faces(0, 3, 5);
    s.block(1, 5, 5, 4, 4, 4).is(S);
    s.block(5, 5, 5, 4, 4, 4).is(S);
  }

  private static void moveOrder() {
    Scene.sentence("If several errors apply to one call, the one that the method names first is returned: move");
    Scene s = full();
    Scene.all(O, s.move(19, 0, 0), s.move(0, -19, 0), s.move(0, 0, MAX), s.move(9, 0, 19), s.move(19, -18, 0));
    Scene.all(S, s.move(18, 0, 0), s.move(0, -18, 0));
  }

  private static void askingOrder() {
    Scene.sentence("If several errors apply to one call, the one that the method names first is returned: the methods that ask");
    Scene s = small();
    Scene.all(U, s.ofPoint(5, 5), s.ofPoint(-1, -1), s.ofFace(1, 5), s.ofFace(-1, -1), s.ofEdge(4, 7), s.ofEdge(-1, -1));
    Scene.all(U, s.stretch(4, 0, 4), s.stretch(0, 1, 4), s.stretch(-1, -1, -1));
    Scene.all(U, s.hidden(4, -1, 2), s.hidden(4, 1, 0), s.hidden(-1, 2, 1), s.hidden(4, 0, 1001));
    Scene.all(U, s.piece(4, 0, 5), s.piece(3, 3, 5), s.piece(0, 1, -1), s.piece(-1, -1, -1));
    Scene.all(U, s.crossing(4, 0, 5), s.crossing(0, 4, 5), s.crossing(4, 4, 0), s.crossing(4, 4, 5), s.crossing(-1, -1, -1));
    Scene.all(O, s.crossing(0, 0, 5), s.crossing(3, 3, -1));
    Scene.all(U, s.stroke(3, 3), s.stroke(-1, -1), s.strokePiece(3, 0, 3), s.strokePiece(0, 3, 3), s.strokePiece(-1, -1, -1));
  }

  private interface Make {
    Scene scene();
  }

  private interface Call {
    Scene.Answer on(Scene s);
  }

  /** Two scenes, with and without the refused call, answer the same to all questions, and go on in the same way. */
  private static void changesNothing(Make make, int error, Call call) {
    Scene with = make.scene();
    Scene.Answer refused = call.on(with);
    refused.is(error);
    Scene without = make.scene();
    // In place of the refused call, so that both scenes have as many calls left for questions.
    without.many(0);
    List<Scene.Answer> got = answers(with);
    List<Scene.Answer> want = answers(without);
    Scene.due(refused.call() + ": answers after it", got.size(), want.size());
    for (int i = 0; i < Math.min(got.size(), want.size()); i++) {
      Scene.due("after " + refused.call() + ", " + got.get(i).call(), got.get(i).got(), want.get(i).got());
    }
  }

  private static List<Scene.Answer> answers(Scene s) {
    List<Scene.Answer> answers = new ArrayList<>(List.of(
        s.many(8), s.many(4), s.point(9, -9, 9), s.face(0, 1, 2), s.wire(0, 2), s.cut(), s.turn(1), s.move(0, 0, 0)));
    answers.addAll(s.all());
    return answers;
  }

  /** The same refused call must change nothing before and after something was asked. */
  private static void changesNothing(int error, Make make, Call... calls) {
    for (Call call : calls) {
      changesNothing(make, error, call);
      changesNothing(() -> {
        Scene s = make.scene();
        s.many(8);
        s.many(10);
        return s;
      }, error, call);
    }
  }

  private static void refusedChanges() {
    String sentence = "A call that returns an error changes nothing: ";
    Scene.sentence(sentence + "point");
    changesNothing(O, RefusalsTest::small, s -> s.point(10, 1, 1), s -> s.point(1, -10, 1), s -> s.point(1, 1, 10));
    changesNothing(S, RefusalsTest::small, s -> s.point(0, 4, 0));
    changesNothing(F, RefusalsTest::full, s -> s.point(9, 9, 9));
    Scene.sentence(sentence + "face");
    changesNothing(U, RefusalsTest::small, s -> s.face(0, 1, 5), s -> s.face(-1, 3, 4), s -> s.face(2, 5, 4));
    changesNothing(S, RefusalsTest::small, s -> s.face(0, 3, 3), s -> s.face(2, 1, 0), s -> s.face(1, 2, 0));
    changesNothing(F, RefusalsTest::full, s -> s.face(0, 1, 15));
    Scene.sentence(sentence + "wire");
    changesNothing(U, RefusalsTest::small, s -> s.wire(0, 5), s -> s.wire(-1, 0));
    changesNothing(S, RefusalsTest::small, s -> s.wire(0, 0), s -> s.wire(4, 3));
    changesNothing(F, RefusalsTest::full, s -> s.wire(6, 7));
    Scene.sentence(sentence + "block");
    changesNothing(O, RefusalsTest::small, s -> s.block(0, 0, 0, 1, 1, 0), s -> s.block(0, 0, 0, 10, 1, 1), s -> s.block(0, 0, 9, 1, 1, 1), s -> s.block(-10, 0, 0, 1, 1, 1));
    changesNothing(S, RefusalsTest::sideOfBlock, s -> s.block(0, 0, 0, 2, 2, 2), s -> s.block(0, 0, -2, 2, 2, 2));
    changesNothing(F, RefusalsTest::full, s -> s.block(0, 0, 0, 1, 1, 1));
    changesNothing(F, RefusalsTest::fullOfPoints, s -> s.block(5, 5, 5, 1, 1, 1), s -> s.block(2, 2, 2, 1, 1, 1));
    Scene.sentence(sentence + "cut");
    changesNothing(S, RefusalsTest::empty, s -> s.cut());
    changesNothing(S, () -> cube().wires(0, 7), s -> s.cut());
    Scene.sentence(sentence + "view");
    changesNothing(O, RefusalsTest::full, s -> s.view(0, 0, 0), s -> s.view(-3, 3, 4), s -> s.view(4, 0, 0), s -> s.view(1, -4, 1));
    Scene.sentence(sentence + "turn");
    changesNothing(O, RefusalsTest::full, s -> s.turn(-1), s -> s.turn(4));
    Scene.sentence(sentence + "move");
    changesNothing(O, RefusalsTest::small, s -> s.move(1, 1, 19), s -> s.move(-19, 0, 0), s -> s.move(0, 19, 0));
    changesNothing(S, RefusalsTest::small, s -> s.move(1, 1, -9), s -> s.move(2, 0, 0), s -> s.move(1, -6, 0));
    Scene.sentence(sentence + "the methods that ask");
    changesNothing(U, RefusalsTest::small, s -> s.ofPoint(5, 0), s -> s.ofFace(1, 0), s -> s.ofEdge(4, 0), s -> s.edge(0, 5), s -> s.stretch(4, 0, 0));
    changesNothing(U, RefusalsTest::small, s -> s.hidden(4, 0, 1), s -> s.piece(4, 0, 0), s -> s.piece(3, 3, 0), s -> s.crossing(4, 0, 0), s -> s.stroke(3, 0), s -> s.strokePiece(0, 3, 0));
    changesNothing(O, RefusalsTest::small, s -> s.ofPoint(0, 5), s -> s.ofFace(0, 5), s -> s.ofEdge(3, 7), s -> s.stretch(3, 0, 4), s -> s.hidden(3, 2, 1));
    changesNothing(O, RefusalsTest::small, s -> s.piece(3, 1, 5), s -> s.crossing(1, 3, 5), s -> s.stroke(0, 3), s -> s.strokePiece(0, 0, 3), s -> s.many(12));
    changesNothing(S, RefusalsTest::small, s -> s.crossing(3, 3, 0));
  }

  /** The bottom of a block that is not there, in another order of its corners. */
  private static Scene sideOfBlock() {
    return empty().points(0, 0, 0, 0, 2, 0, 2, 2, 0).faces(2, 1, 0);
  }

  private static Scene fullOfPoints() {
    return cube().points(9, 9, 9, -9, 9, 9).faces(0, 1, 2);
  }

  private static void mesh() {
    newObject();
    pointOutside();
    pointState();
    pointFull();
    faceUnknown();
    faceStraight();
    faceThere();
    faceFull();
    wireUnknown();
    wireState();
    wireFull();
    blockCorners();
    blockLengths();
    blockPlace();
    blockState();
    blockFullOfPoints();
    blockFullOfFaces();
    cutState();
    cutLast();
    clearAll();
    clearKeepsTheView();
  }

  private static void places() {
    viewOutside();
    turnOutside();
    turnCounts();
    turnKeepsTheView();
    moveOutside();
    moveState();
  }

  private static void asking() {
    ofPointRow();
    ofFaceRow();
    ofEdgeRow();
    edgeRow();
    stretchRow();
    hiddenRow();
    pieceRow();
    crossingRow();
    strokeRow();
    strokePieceRow();
    manyRow();
  }

  public static void main(String[] args) {
    mesh();
    places();
    asking();
    errorsInOrder();
    refusedChanges();
    Scene.end();
  }
}
