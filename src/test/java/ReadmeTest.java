import java.lang.reflect.Method;
import java.lang.reflect.Modifier;
import java.net.URL;
import java.net.URLClassLoader;
import java.nio.file.Files;
import java.nio.file.Path;
import java.util.ArrayList;
import java.util.List;
import java.util.regex.Matcher;
import java.util.regex.Pattern;
import javax.tools.ToolProvider;

/** README.md: its example compiles and answers what stands beside each call; its table has every call. */
public final class ReadmeTest {
  private static final Pattern BLOCK = Pattern.compile("```java\n(.*?)```", Pattern.DOTALL);
  // A call with a number beside it, perhaps kept in a variable: "int b = call;  // 5, words".
  private static final Pattern CALL = Pattern.compile("(int \\w+ = )?(.+);\\s+// (-?\\d+)\\b.*");

  public static void main(String[] args) throws Exception {
    String text = Files.readString(Path.of("README.md"));
    table(text);
    example(text);
    Check.finish("ReadmeTest");
  }

  private static void table(String text) {
    for (Method m : SignSolids.class.getDeclaredMethods()) {
      String name = "`" + m.getName() + "\\((\\w+(, \\w+){" + Math.max(0, m.getParameterCount() - 1) + "})?\\)`";
      if (!Modifier.isPrivate(m.getModifiers())) {
        Pattern row = Pattern.compile("(?m)^\\| .*" + name + ".*\\|$");
        Check.holds("the table has " + m.getName(), row.matcher(text).find());
      }
    }
  }

  private static void example(String text) throws Exception {
    List<String> blocks = new ArrayList<>();
    for (Matcher m = BLOCK.matcher(text); m.find(); ) {
      blocks.add(m.group(1));
    }
    Check.due("java blocks: the helper and the example", blocks.size(), 2);
    List<Integer> due = new ArrayList<>();
    List<String> calls = new ArrayList<>();
    String source = "public final class Example {\n" + blocks.get(0)
        + "public static java.util.List<Integer> answers() {\n"
        + "java.util.List<Integer> got = new java.util.ArrayList<>();\n"
        + collecting(blocks.get(1), calls, due) + "return got;\n}\n}\n";
    List<?> got = (List<?>) compiled(source).getMethod("answers").invoke(null);
    Check.holds("the example has calls", !calls.isEmpty());
    for (int i = 0; i < calls.size(); i++) {
      Check.due("README.md: " + calls.get(i), (Integer) got.get(i), due.get(i));
    }
  }

  /** The example with every call's answer added to a list. */
  private static String collecting(String example, List<String> calls, List<Integer> due) {
    StringBuilder out = new StringBuilder();
    for (String line : example.split("\n")) {
      Matcher m = CALL.matcher(line);
      if (!m.matches()) {
        out.append(line).append('\n');
        continue;
      }
      calls.add(m.group(2));
      due.add(Integer.valueOf(m.group(3)));
      String kept = m.group(1) == null ? "int call" + calls.size() + " = " : m.group(1);
      out.append(kept).append(m.group(2)).append(";\ngot.add(").append(kept.split(" ")[1]).append(");\n");
    }
    return out.toString();
  }

  private static Class<?> compiled(String source) throws Exception {
    Path dir = Files.createTempDirectory("readme");
    Path file = Files.writeString(dir.resolve("Example.java"), source);
    int code = ToolProvider.getSystemJavaCompiler().run(null, null, null,
        "-cp", System.getProperty("java.class.path"), "-d", dir.toString(), file.toString());
    Check.due("javac of the example", code, 0);
    try (URLClassLoader loader = new URLClassLoader(new URL[] {dir.toUri().toURL()})) {
      return loader.loadClass("Example");
    } finally {
      Files.deleteIfExists(dir.resolve("Example.class"));
      Files.delete(file);
      Files.delete(dir);
    }
  }
}
