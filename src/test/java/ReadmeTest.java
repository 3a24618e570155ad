import java.io.IOException;
import java.lang.reflect.Method;
import java.lang.reflect.Modifier;
import java.nio.file.Files;
import java.nio.file.Path;
import java.util.ArrayList;
import java.util.List;
import java.util.regex.Matcher;
import java.util.regex.Pattern;
import java.util.stream.Stream;
import javax.tools.ToolProvider;

/**
 * README.md is right: its examples compile, each call there answers what stands behind it, and it
 * names every method of the class and every test.
 */
public final class ReadmeTest {
  private static final Pattern BLOCK = Pattern.compile("```java\n(.*?)```", Pattern.DOTALL);
  private static final Pattern CALL = Pattern.compile("x\\.(\\w+)\\(([-0-9, ]*)\\); +// (-?\\d+)(?:: (UNKNOWN|OUTSIDE|STATE|FULL|NONE))?");

  private static int wrong = 0;

  private static void due(String what, boolean holds) {
    if (!holds) {
      wrong++;
      System.out.println("README.md: " + what);
    }
  }

  private static List<String> blocks(String text) {
    List<String> all = new ArrayList<>();
    Matcher m = BLOCK.matcher(text);
    while (m.find()) {
      all.add(m.group(1));
    }
    return all;
  }

  private static int call(HiddenEdges x, String name, String arguments) throws ReflectiveOperationException {
    String[] words = arguments.isBlank() ? new String[0] : arguments.split(", ");
    Object[] numbers = new Object[words.length];
    Class<?>[] types = new Class<?>[words.length];
    for (int i = 0; i < words.length; i++) {
      numbers[i] = Integer.valueOf(words[i]);
      types[i] = int.class;
    }
    Method method = HiddenEdges.class.getMethod(name, types);
    return (int) method.invoke(x, numbers);
  }

  /** The calls of one example, in their order, on a new object. */
  private static int answers(String block) throws ReflectiveOperationException {
    HiddenEdges x = new HiddenEdges();
    int found = 0;
    Matcher m = CALL.matcher(block);
    while (m.find()) {
      int got = call(x, m.group(1), m.group(2));
      due(m.group() + " answered " + got, got == Integer.parseInt(m.group(3)));
      if (m.group(4) != null) {
        due(m.group() + " is the constant", got == HiddenEdges.class.getField(m.group(4)).getInt(null));
      }
      found++;
    }
    return found;
  }

  private static void compiles(List<String> blocks) throws IOException {
    Path folder = Files.createTempDirectory("readme");
    Path file = folder.resolve("Examples.java");
    StringBuilder text = new StringBuilder("class Examples {\n");
    for (int i = 0; i < blocks.size(); i++) {
      text.append("static void example").append(i).append("() {\n").append(blocks.get(i)).append("}\n");
    }
    Files.writeString(file, text.append("}\n"));
    int code = ToolProvider.getSystemJavaCompiler().run(null, null, null,
        "-cp", System.getProperty("java.class.path"), "-d", folder.toString(), file.toString());
    due("the examples compile", code == 0);
    try (Stream<Path> made = Files.list(folder)) {
      for (Path each : made.toList()) {
        Files.delete(each);
      }
    }
    Files.delete(folder);
  }

  private static void names(String text) throws IOException {
    for (Method m : HiddenEdges.class.getDeclaredMethods()) {
      if (Modifier.isPublic(m.getModifiers())) {
        due("does not name " + m.getName(), text.contains("`" + m.getName() + "`"));
      }
    }
    try (Stream<Path> tests = Files.list(Path.of("src/test/java"))) {
      for (Path each : tests.toList()) {
        due("does not name " + each, text.contains("`src/test/java/" + each.getFileName() + "`"));
      }
    }
  }

  public static void main(String[] args) throws IOException, ReflectiveOperationException {
    String text = Files.readString(Path.of("README.md"));
    List<String> blocks = blocks(text);
    int calls = 0;
    for (String block : blocks) {
      calls += answers(block);
    }
    due("has two examples with over twenty answers", blocks.size() == 2 && calls > 20);
    compiles(blocks);
    names(text);
    System.out.println(calls + " calls in README.md, " + wrong + " faults");
    if (wrong != 0) {
      System.exit(1);
    }
  }
}
