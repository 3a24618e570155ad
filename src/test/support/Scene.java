import java.util.ArrayList;
import java.util.List;

/**
 * An object of the class as the tests use it: each call is kept with its answer, which is then
 * compared with the one that is due. What is wrong is printed with the document's sentence that it
 * belongs to.
 */
final class Scene {
  static final int MIN = Integer.MIN_VALUE, MAX = Integer.MAX_VALUE;
  private static final int UNKNOWN = -1, NONE = -9;
  // The document promises nothing about an object after this many calls, so no test may lean on them.
  private static final int MOST_CALLS = 512;
  private static final int MOST_LINES = 60;

  private static int wrong = 0;
  private static int sentences = 0;
  private static String sentence = "";

  private final HiddenEdges x = new HiddenEdges();
  private int calls = 0;

  /** A call with what it answered. */
  record Answer(String call, int got) {
    void is(int want) {
      due(call, got, want);
    }
  }

  /** Names the sentence that the answers from here on belong to. */
  static void sentence(String text) {
    sentence = text;
    sentences++;
  }

  static void due(String what, int got, int want) {
    if (got != want) {
      wrong++;
      if (wrong <= MOST_LINES) {
        System.out.println(sentence + ": " + what + " answered " + got + ", due is " + want);
      }
    }
  }

  static void all(int want, Answer... answers) {
    for (Answer answer : answers) {
      answer.is(want);
    }
  }

  static void end() {
    System.out.println(sentences + " sentences, " + wrong + " answers that are not as due");
    if (wrong != 0) {
      System.exit(1);
    }
  }

  /** Just outside of a range, and so far outside that a narrower number or a sum would wrap around into it. */
  static int[] beyond(int low, int high) {
    return new int[] {low - 1, high + 1, low - 256, high + 256, low - 65536, high + 65536, MIN, MAX, MIN + 1, MAX - 1};
  }

  private Answer answer(int got, String name, int... arguments) {
    List<String> words = new ArrayList<>();
    for (int argument : arguments) {
      words.add(String.valueOf(argument));
    }
    calls++;
    if (calls > MOST_CALLS) {
      throw new IllegalStateException(sentence + ": a scene of over " + MOST_CALLS + " calls");
    }
    return new Answer(name + "(" + String.join(", ", words) + ")", got);
  }

  int calls() {
    return calls;
  }

  Answer point(int px, int py, int pz) {
    return answer(x.point(px, py, pz), "point", px, py, pz);
  }

  Answer face(int p, int q, int r) {
    return answer(x.face(p, q, r), "face", p, q, r);
  }

  Answer wire(int p, int q) {
    return answer(x.wire(p, q), "wire", p, q);
  }

  Answer block(int px, int py, int pz, int w, int h, int t) {
    return answer(x.block(px, py, pz, w, h, t), "block", px, py, pz, w, h, t);
  }

  Answer cut() {
    return answer(x.cut(), "cut");
  }

  Answer clear() {
    return answer(x.clear(), "clear");
  }

  Answer view(int a, int b, int c) {
    return answer(x.view(a, b, c), "view", a, b, c);
  }

  Answer turn(int how) {
    return answer(x.turn(how), "turn", how);
  }

  Answer move(int dx, int dy, int dz) {
    return answer(x.move(dx, dy, dz), "move", dx, dy, dz);
  }

  Answer ofPoint(int n, int what) {
    return answer(x.ofPoint(n, what), "ofPoint", n, what);
  }

  Answer ofFace(int f, int what) {
    return answer(x.ofFace(f, what), "ofFace", f, what);
  }

  Answer ofEdge(int e, int what) {
    return answer(x.ofEdge(e, what), "ofEdge", e, what);
  }

  Answer edge(int p, int q) {
    return answer(x.edge(p, q), "edge", p, q);
  }

  Answer stretch(int e, int f, int which) {
    return answer(x.stretch(e, f, which), "stretch", e, f, which);
  }

  Answer hidden(int e, int up, int down) {
    return answer(x.hidden(e, up, down), "hidden", e, up, down);
  }

  Answer piece(int e, int k, int what) {
    return answer(x.piece(e, k, what), "piece", e, k, what);
  }

  Answer crossing(int e, int g, int which) {
    return answer(x.crossing(e, g, which), "crossing", e, g, which);
  }

  Answer stroke(int k, int what) {
    return answer(x.stroke(k, what), "stroke", k, what);
  }

  Answer strokePiece(int k, int i, int what) {
    return answer(x.strokePiece(k, i, what), "strokePiece", k, i, what);
  }

  Answer many(int what) {
    return answer(x.many(what), "many", what);
  }

  Scene points(int... coordinates) {
    for (int i = 0; i < coordinates.length; i += 3) {
      int before = many(0).got();
      point(coordinates[i], coordinates[i + 1], coordinates[i + 2]).is(before);
    }
    return this;
  }

  Scene faces(int... corners) {
    for (int i = 0; i < corners.length; i += 3) {
      int before = many(1).got();
      face(corners[i], corners[i + 1], corners[i + 2]).is(before);
    }
    return this;
  }

  Scene wires(int... ends) {
    for (int i = 0; i < ends.length; i += 2) {
      int before = many(2).got();
      wire(ends[i], ends[i + 1]).is(before + 1);
    }
    return this;
  }

  /** How many points, faces, wires and edges there are. */
  void counts(int points, int faces, int wires, int edges) {
    many(0).is(points);
    many(1).is(faces);
    many(2).is(wires);
    many(3).is(edges);
  }

  void place(int n, int px, int py, int pz) {
    ofPoint(n, 0).is(px + 10);
    ofPoint(n, 1).is(py + 10);
    ofPoint(n, 2).is(pz + 10);
  }

  void corners(int f, int p, int q, int r) {
    ofFace(f, 0).is(p);
    ofFace(f, 1).is(q);
    ofFace(f, 2).is(r);
  }

  /** The numerators and denominators of a stretch's beginning and end. */
  void stretchIs(int e, int f, int... want) {
    for (int which = 0; which < want.length; which++) {
      stretch(e, f, which).is(want[which]);
    }
  }

  void noStretch(int e, int f) {
    stretchIs(e, f, NONE, NONE, NONE, NONE);
  }

  /** All pieces of an edge, five numbers each: where it begins and ends, and its quantity. */
  void piecesAre(int e, int... want) {
    ofEdge(e, 4).is(want.length / 5);
    for (int i = 0; i < want.length; i++) {
      piece(e, i / 5, i % 5).is(want[i]);
    }
    piece(e, want.length / 5, 0).is(UNKNOWN);
  }

  /** t, s and the nearer edge. */
  void crossingIs(int e, int g, int... want) {
    for (int which = 0; which < want.length; which++) {
      crossing(e, g, which).is(want[which]);
    }
  }

  void noCrossing(int e, int g) {
    crossingIs(e, g, NONE, NONE, NONE, NONE, NONE);
    crossingIs(g, e, NONE, NONE, NONE, NONE, NONE);
  }

  /** One stroke: the points at which it begins and ends, then its pieces, three numbers each. */
  void strokeIs(int k, int begin, int end, int... want) {
    stroke(k, 0).is(want.length / 3);
    stroke(k, 1).is(begin);
    stroke(k, 2).is(end);
    for (int i = 0; i < want.length; i++) {
      strokePiece(k, i / 3, i % 3).is(want[i]);
    }
    strokePiece(k, want.length / 3, 0).is(UNKNOWN);
  }

  void strokes(int want) {
    many(8).is(want);
    stroke(want, 0).is(UNKNOWN);
  }

  /** As many answers about the scene as its calls leave room for, so that two scenes can be compared. */
  List<Answer> all() {
    List<Answer> answers = new ArrayList<>();
    for (int what = 0; what < 12; what++) {
      answers.add(many(what));
    }
    int points = answers.get(0).got(), faces = answers.get(1).got(), edges = answers.get(3).got(), strokes = answers.get(8).got();
    for (int what = 0; what < 5; what++) {
      for (int n = 0; n < points; n++) {
        answers.add(ofPoint(n, what));
      }
      for (int f = 0; f < faces; f++) {
        answers.add(ofFace(f, what));
      }
    }
    for (int what = 0; what < 7; what++) {
      for (int e = 0; e < edges && calls < MOST_CALLS; e++) {
        answers.add(ofEdge(e, what));
      }
    }
    for (int what = 0; what < 3; what++) {
      for (int k = 0; k < strokes && calls < MOST_CALLS; k++) {
        answers.add(stroke(k, what));
      }
    }
    for (int e = 0; e < edges; e++) {
      for (int which = 0; which < 5 && calls < MOST_CALLS; which++) {
        answers.add(crossing(e, (e + 3) % edges, which));
      }
    }
    return answers;
  }
}
