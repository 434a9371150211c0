import java.io.File;
import java.io.IOException;
import java.lang.reflect.Method;
import java.lang.reflect.Modifier;
import java.net.URL;
import java.net.URLClassLoader;
import java.nio.charset.StandardCharsets;
import java.nio.file.Files;
import java.nio.file.Path;
import java.util.ArrayList;
import java.util.List;
import java.util.regex.Matcher;
import java.util.regex.Pattern;
import javax.tools.ToolProvider;

/**
 * README.md: each example is compiled and run, and each call in it must answer the number told behind it;
 * each public call and each test must be named.
 */
public final class Readme {
  private static final Pattern BLOCK = Pattern.compile("```java\n(.*?)```", Pattern.DOTALL);
  private static final Pattern TOLD = Pattern.compile("(\\w+\\.\\w+\\(.*\\)); *// (-?\\d+)(:.*)?");
  private static final int LEAST_TOLD = 20;

  private static int wrong = 0;

  private static void wrong(String what) {
    wrong++;
    System.out.println(what);
  }

  /** A class whose main prints each call of the example that answers another number than is told. */
  private static String program(String name, List<String> lines) {
    StringBuilder s = new StringBuilder("public class " + name + " {\n  public static int wrong = 0;\n");
    s.append("  static void due(String call, long got, long want) {\n");
    s.append("    if (got != want) { wrong++; System.out.println(call + \" answered \" + got + \", told is \" + want); }\n  }\n");
    s.append("  public static void main(String[] args) {\n");
    for (String line : lines) {
      Matcher m = TOLD.matcher(line.strip());
      s.append(m.matches() ? "due(\"" + m.group(1).replace("\"", "\\\"") + "\", " + m.group(1) + ", " + m.group(2) + ");" : line);
      s.append("\n");
    }
    return s.append("  }\n}\n").toString();
  }

  private static void runs(String name, List<String> lines, Path dir) throws IOException, ReflectiveOperationException {
    Path file = dir.resolve(name + ".java");
    Files.writeString(file, program(name, lines));
    String classes = System.getProperty("java.class.path");
    if (ToolProvider.getSystemJavaCompiler().run(null, null, null, "-cp", classes, "-d", dir.toString(), file.toString()) != 0) {
      wrong("the example " + name + " does not compile");
      return;
    }
    try (URLClassLoader loader = new URLClassLoader(new URL[] {dir.toUri().toURL()})) {
      Class<?> example = loader.loadClass(name);
      example.getMethod("main", String[].class).invoke(null, (Object) new String[0]);
      wrong += example.getField("wrong").getInt(null);
    }
  }

  private static void examples(String readme) throws IOException, ReflectiveOperationException {
    Path dir = Files.createTempDirectory("readme");
    int blocks = 0;
    int told = 0;
    for (Matcher m = BLOCK.matcher(readme); m.find(); blocks++) {
      List<String> lines = List.of(m.group(1).split("\n"));
      for (String line : lines) {
        if (TOLD.matcher(line.strip()).matches()) told++;
        else if (line.contains("//")) wrong("no answer that can be looked at: " + line);
      }
      runs("Example" + blocks, lines, dir);
    }
    if (told < LEAST_TOLD) wrong("only " + told + " answers are told");
    for (File file : dir.toFile().listFiles()) file.delete();
    Files.delete(dir);
  }

  private static void names(String readme) {
    for (Method m : ShameAngles.class.getDeclaredMethods()) {
      boolean named = readme.contains("`" + m.getName() + "(");
      if (Modifier.isPublic(m.getModifiers()) && !named) wrong("the call " + m.getName() + " is not told");
    }
    List<String> tests = new ArrayList<>(List.of(new File("src/test/java").list()));
    for (String test : tests) {
      if (!readme.contains("`" + test.replace(".java", "") + "` |")) wrong("the test " + test + " is not told");
    }
  }

  public static void main(String[] args) throws IOException, ReflectiveOperationException {
    String readme = Files.readString(Path.of("README.md"), StandardCharsets.UTF_8);
    examples(readme);
    names(readme);
    System.out.println(wrong == 0 ? "README.md is right" : wrong + " wrong");
    if (wrong != 0) System.exit(1);
  }
}
