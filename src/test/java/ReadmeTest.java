import java.io.File;
import java.lang.reflect.Method;
import java.net.URI;
import java.net.URL;
import java.net.URLClassLoader;
import java.nio.file.Files;
import java.nio.file.Path;
import java.util.ArrayList;
import java.util.Comparator;
import java.util.List;
import java.util.regex.Matcher;
import java.util.regex.Pattern;
import java.util.stream.Stream;
import javax.tools.JavaCompiler;
import javax.tools.JavaFileObject;
import javax.tools.SimpleJavaFileObject;
import javax.tools.ToolProvider;

/**
 * The examples of README.md are compiled as they stand there, each call with a look at the answer that stands behind
 * it: "x.cut(0); // 2: why". A block that begins with "static" is a helper of all others; each other one runs alone.
 */
public final class ReadmeTest {
  private static final Pattern BLOCK = Pattern.compile("(?s)```java\n(.*?)```");
  private static final Pattern ANSWERED = Pattern.compile("\\s*((?:x\\.|tell\\().*\\)); *// (-?\\d+|[A-Z]+)(?:: .*)?");
  private static final Pattern CALL = Pattern.compile("\\s*(?:x\\.|tell\\().*");
  private static final String[] REFUSALS = {"UNKNOWN", "OUTSIDE", "NOT", "FULL", "NONE"};
  private static int looked = 0;
  private static int wrong = 0;

  public static void main(String[] args) throws Exception {
    String readme = Files.readString(Path.of("README.md"));
    Path classes = Files.createTempDirectory("readme");
    try {
      if (compiled(program(readme), classes)) runExamples(classes);
    } finally {
      empty(classes);
    }
    allIsTold(readme);
    System.out.println(looked + " answers of README.md, " + wrong + " not as due");
    if (wrong != 0) System.exit(1);
  }

  /** The examples ask for this, by its name. */
  public static void due(String call, int got, int want) {
    looked++;
    if (got != want) fail(call + " answered " + got + ", README.md says " + want);
  }

  private static void fail(String what) {
    wrong++;
    System.out.println(what);
  }

  private static String program(String readme) {
    StringBuilder members = new StringBuilder();
    StringBuilder steps = new StringBuilder();
    Matcher block = BLOCK.matcher(readme);
    int blocks = 0;
    while (block.find()) {
      String code = block.group(1);
      if (code.startsWith("static ")) {
        members.append(code);
      } else {
        members.append("static void example").append(blocks).append("() {\n").append(lookedAt(code)).append("}\n");
        steps.append("example").append(blocks++).append("();\n");
      }
    }
    if (blocks == 0) fail("README.md has no example");
    StringBuilder constants = new StringBuilder();
    for (String name : REFUSALS) {
      constants.append("static final int ").append(name).append(" = WhoseThread.").append(name).append(";\n");
    }
    return "public final class Examples {\n" + constants + members + "public static void run() {\n" + steps + "}\n}\n";
  }

  private static String lookedAt(String code) {
    StringBuilder out = new StringBuilder();
    for (String line : code.split("\n")) {
      Matcher m = ANSWERED.matcher(line);
      if (m.matches()) {
        String call = m.group(1);
        String told = call.replace("\\", "\\\\").replace("\"", "\\\"");
        out.append("ReadmeTest.due(\"").append(told).append("\", ").append(call).append(", ").append(m.group(2)).append(");\n");
      } else {
        if (CALL.matcher(line).matches()) fail("README.md gives no answer: " + line);
        out.append(line).append('\n');
      }
    }
    return out.toString();
  }

  private static boolean compiled(String source, Path classes) {
    JavaCompiler compiler = ToolProvider.getSystemJavaCompiler();
    if (compiler == null) {
      fail("there is no compiler for the examples of README.md");
      return false;
    }
    JavaFileObject file = new SimpleJavaFileObject(URI.create("string:///Examples.java"), JavaFileObject.Kind.SOURCE) {
      @Override
      public CharSequence getCharContent(boolean ignoreEncodingErrors) {
        return source;
      }
    };
    String path = System.getProperty("java.class.path");
    List<String> options = List.of("-d", classes.toString(), "-cp", path + File.pathSeparator + classes);
    boolean fine = compiler.getTask(null, null, null, options, null, List.of(file)).call();
    if (!fine) fail("the examples of README.md do not compile");
    return fine;
  }

  private static void runExamples(Path classes) throws Exception {
    try (URLClassLoader loader = new URLClassLoader(new URL[] {classes.toUri().toURL()}, ReadmeTest.class.getClassLoader())) {
      loader.loadClass("Examples").getMethod("run").invoke(null);
    }
  }

  private static void empty(Path dir) throws Exception {
    List<Path> all = new ArrayList<>();
    try (Stream<Path> files = Files.walk(dir)) {
      files.sorted(Comparator.reverseOrder()).forEach(all::add);
    }
    for (Path file : all) Files.delete(file);
  }

  /** Each call of the face stands in an example and in the table of answers, each refusal in the table of refusals. */
  private static void allIsTold(String readme) {
    StringBuilder examples = new StringBuilder();
    Matcher block = BLOCK.matcher(readme);
    while (block.find()) examples.append(block.group(1));
    for (Method m : WhoseThread.class.getDeclaredMethods()) {
      if ((m.getModifiers() & java.lang.reflect.Modifier.PUBLIC) == 0) continue;
      if (examples.indexOf("x." + m.getName() + "(") < 0) fail("no example calls " + m.getName());
      if (!readme.contains("\n| `" + m.getName() + "(")) fail("no row tells what is answered by " + m.getName());
    }
    for (String name : List.of("UNKNOWN", "OUTSIDE", "NOT", "FULL")) {
      if (!readme.contains("\n| `" + name + "` (")) fail("no row tells of " + name);
    }
  }
}
