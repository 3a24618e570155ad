import java.io.IOException;
import java.lang.reflect.Constructor;
import java.lang.reflect.Field;
import java.lang.reflect.Method;
import java.lang.reflect.Modifier;
import java.nio.file.Files;
import java.nio.file.Path;
import java.util.ArrayList;
import java.util.Arrays;
import java.util.IdentityHashMap;
import java.util.List;
import java.util.TreeSet;
import java.util.regex.Matcher;
import java.util.regex.Pattern;

/**
 * What can be seen from outside of the rules of LANGUAGE.md, of the public face, and of the room
 * that an object takes.
 */
public final class RulesTest {
  private static final String[] FACE = {
    "block(int,int,int,int,int,int)", "clear()", "crossing(int,int,int)", "cut()", "edge(int,int)",
    "face(int,int,int)", "hidden(int,int,int)", "many(int)", "move(int,int,int)", "ofEdge(int,int)",
    "ofFace(int,int)", "ofPoint(int,int)", "piece(int,int,int)", "point(int,int,int)",
    "stretch(int,int,int)", "stroke(int,int)", "strokePiece(int,int,int)", "turn(int)",
    "view(int,int,int)", "wire(int,int)"};
  private static final String[] BANNED = {
    "throw", "try", "catch", "synchronized", "assert", "static \\{", "->", "::", "@Override",
    "\\w+Exact\\(", "System\\.(?!arraycopy)", "Thread", "Random", "import (?!java\\.util\\.Arrays;)"};

  private static int wrong = 0;

  private static void due(String what, boolean holds) {
    if (!holds) {
      wrong++;
      System.out.println(what);
    }
  }

  private static String signature(Method m) {
    List<String> types = new ArrayList<>();
    for (Class<?> type : m.getParameterTypes()) {
      types.add(type.getName());
    }
    return m.getName() + "(" + String.join(",", types) + ")";
  }

  private static void face() {
    Class<?> c = HiddenEdges.class;
    due("the class is public and final", Modifier.isPublic(c.getModifiers()) && Modifier.isFinal(c.getModifiers()));
    TreeSet<String> open = new TreeSet<>();
    TreeSet<String> openNames = new TreeSet<>();
    for (Method m : c.getDeclaredMethods()) {
      if (!Modifier.isPrivate(m.getModifiers())) {
        open.add(signature(m));
        openNames.add(m.getName());
        due(m + " is public, of the object, and answers an int", m.getModifiers() == Modifier.PUBLIC && m.getReturnType() == int.class);
      }
    }
    due("the methods are those of the document: " + open, open.equals(new TreeSet<>(Arrays.asList(FACE))));
    Constructor<?>[] constructors = c.getDeclaredConstructors();
    due("one public constructor without parameters", constructors.length == 1
        && constructors[0].getParameterCount() == 0 && Modifier.isPublic(constructors[0].getModifiers()));
    TreeSet<String> constants = new TreeSet<>();
    for (Field f : c.getDeclaredFields()) {
      if (!Modifier.isPrivate(f.getModifiers())) {
        constants.add(f.getName());
        due(f + " is a constant", f.getModifiers() == (Modifier.PUBLIC | Modifier.STATIC | Modifier.FINAL) && f.getType() == int.class);
      }
    }
    due("the constants are those of the document: " + constants,
        constants.equals(new TreeSet<>(List.of("UNKNOWN", "OUTSIDE", "STATE", "FULL", "NONE"))));
    classes(c, openNames);
  }

  private static void classes(Class<?> c, TreeSet<String> openNames) {
    List<Class<?>> all = new ArrayList<>(List.of(c.getDeclaredClasses()));
    due("at most twelve classes", all.size() + 1 <= 12);
    for (Class<?> inside : all) {
      due(inside + " is static and not public", Modifier.isStatic(inside.getModifiers()) && !Modifier.isPublic(inside.getModifiers()));
    }
    all.add(c);
    for (Class<?> any : all) {
      int fields = 0;
      for (Field f : any.getDeclaredFields()) {
        fields += Modifier.isStatic(f.getModifiers()) ? 0 : 1;
        due(f + " is final, being static", !Modifier.isStatic(f.getModifiers()) || Modifier.isFinal(f.getModifiers()));
      }
      due(any + " has at most twenty fields", fields <= 20);
      for (Method m : any.getDeclaredMethods()) {
        due(m + " takes at most seven parameters", m.getParameterCount() <= 7);
        due(m + " bears the name of a public one", any == c && Modifier.isPublic(m.getModifiers()) || !openNames.contains(m.getName()));
      }
    }
  }

  private static void source() throws IOException {
    String[] lines = Files.readString(Path.of("src/main/java/HiddenEdges.java")).split("\n");
    int length = 0;
    for (int i = 0; i < lines.length; i++) {
      String line = lines[i].replaceFirst("^\\s*(//|/\\*\\*|\\*).*", "");
      for (String word : BANNED) {
        Matcher m = Pattern.compile("(?<!\\w)" + word + "(?!\\w)").matcher(line);
        due("line " + (i + 1) + ": " + word, !m.find());
      }
      // Rows are made with the object and used again, so no call makes an object.
      due("line " + (i + 1) + ": makes an object in a method", !line.contains("new ") || line.matches("\\s*(private )?final .* = new .*;"));
      due("line " + (i + 1) + " holds a sign beyond 127", lines[i].chars().allMatch(sign -> sign < 128));
      length = line.matches("\\s+(public|private|static|final|int|long|void|boolean).*\\) \\{") ? 0 : length + 1;
      due("line " + (i + 1) + ": a method of over sixty lines", length <= 60);
    }
  }

  private static long room(Object o, IdentityHashMap<Object, Boolean> seen) throws IllegalAccessException {
    if (o == null || seen.put(o, true) != null) {
      return 0;
    }
    if (o instanceof int[] row) {
      return row.length;
    }
    if (o instanceof long[] row) {
      return row.length;
    }
    long sum = 0;
    for (Field f : o.getClass().getDeclaredFields()) {
      if (!Modifier.isStatic(f.getModifiers())) {
        f.setAccessible(true);
        sum += 1 + (f.getType().isPrimitive() ? 0 : room(f.get(o), seen));
      }
    }
    return sum;
  }

  private static void room() throws IllegalAccessException {
    IdentityHashMap<Object, Boolean> seen = new IdentityHashMap<>();
    long elements = room(new HiddenEdges(), seen);
    System.out.println("an object: " + seen.size() + " objects and arrays, " + elements + " fields and elements");
    // So that even a run that makes a new object at each of 512 calls fits into half the room.
    due("the objects of 512 new ones fit", 512L * seen.size() <= 300_000);
    due("the elements of 512 new ones fit", 512 * elements <= 3_900_000);
  }

  public static void main(String[] args) throws IOException, IllegalAccessException {
    face();
    source();
    room();
    System.out.println(wrong == 0 ? "all rules hold" : wrong + " rules are broken");
    if (wrong != 0) {
      System.exit(1);
    }
  }
}
