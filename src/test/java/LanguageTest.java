import java.lang.reflect.Constructor;
import java.lang.reflect.Field;
import java.lang.reflect.Method;
import java.lang.reflect.Modifier;
import java.nio.file.Files;
import java.nio.file.Path;
import java.util.List;
import java.util.Set;
import java.util.TreeSet;
import java.util.regex.Matcher;
import java.util.regex.Pattern;

/** The face of the class, and those rules of LANGUAGE.md that its text shows. */
public final class LanguageTest {
  private static final String SOURCE = "src/main/java/WhoseThread.java";
  private static final String FACE = "write(int) erase() fault() loom() thread(int,int) as(int,int) order(int,int) top(int)"
      + " cut(int) put(int,int) lift(int) knot(int,int,int) dye(int,int) go(int) undo() keep(int) back(int)"
      + " takes(int) loss(int) lifts(int,int) doom(int) swapped(int) tails(int) given(int,int,int) cat(int,int)"
      + " mean(int) whose(int) fourth(int) count(int)";
  private static int wrong = 0;

  private static void must(boolean holds, String rule) {
    if (holds) return;
    wrong++;
    System.out.println("not as due: " + rule);
  }

  public static void main(String[] args) throws Exception {
    face();
    for (Class<?> inside : WhoseThread.class.getDeclaredClasses()) nested(inside);
    String code = bare(Files.readString(Path.of(SOURCE)));
    words(code);
    library(code);
    methods(code);
    System.out.println(wrong == 0 ? "the face and the rules are kept" : wrong + " rules are not kept");
    if (wrong != 0) System.exit(1);
  }

  private static void face() {
    Class<?> c = WhoseThread.class;
    must(Modifier.isPublic(c.getModifiers()) && Modifier.isFinal(c.getModifiers()), "public and final");
    Set<String> found = new TreeSet<>();
    Set<String> names = new TreeSet<>();
    for (Method m : c.getDeclaredMethods()) {
      if (m.isSynthetic()) continue;
      StringBuilder told = new StringBuilder(m.getName()).append('(');
      for (Class<?> p : m.getParameterTypes()) told.append(told.charAt(told.length() - 1) == '(' ? "" : ",").append(p.getName());
      told.append(')');
      if (Modifier.isPrivate(m.getModifiers())) continue;
      must(Modifier.isPublic(m.getModifiers()) && !Modifier.isStatic(m.getModifiers()), told + " is public");
      must(m.getReturnType() == int.class, told + " answers an int");
      found.add(told.toString());
      names.add(m.getName());
    }
    must(found.equals(new TreeSet<>(List.of(FACE.split(" ")))), "the methods are the document's: " + found);
    for (Method m : c.getDeclaredMethods()) {
      must(!Modifier.isPrivate(m.getModifiers()) || !names.contains(m.getName()), "private " + m.getName());
    }
    Constructor<?>[] made = c.getDeclaredConstructors();
    must(made.length == 1 && Modifier.isPublic(made[0].getModifiers()) && made[0].getParameterCount() == 0, "one constructor");
    Set<String> constants = new TreeSet<>();
    for (Field f : c.getDeclaredFields()) {
      if (Modifier.isStatic(f.getModifiers())) must(Modifier.isFinal(f.getModifiers()) && f.getType() == int.class, "rule 5, " + f);
      if (Modifier.isPrivate(f.getModifiers())) continue;
      must(Modifier.isPublic(f.getModifiers()) && Modifier.isStatic(f.getModifiers()), f + " is a constant");
      constants.add(f.getName());
    }
    must(constants.equals(Set.of("NONE", "UNKNOWN", "OUTSIDE", "NOT", "FULL")), "the constants are the document's");
  }

  private static void nested(Class<?> c) {
    must(Modifier.isStatic(c.getModifiers()), c + " is static");
    for (Field f : c.getDeclaredFields()) must(!Modifier.isStatic(f.getModifiers()), "rule 5, " + f);
    must(c.getDeclaredFields().length <= 20, c + " has few fields");
    for (Method m : c.getDeclaredMethods()) {
      must(m.getParameterCount() <= 7, m + " takes seven at most");
      must(!Set.of("equals", "hashCode", "toString").contains(m.getName()), m + " is not of its own");
      must(!FACE.contains(m.getName() + "("), m + " bears no public name");
    }
  }

  /** The program without its remarks and texts. */
  private static String bare(String source) {
    String code = source.replaceAll("(?s)/\\*.*?\\*/", " ").replaceAll("//[^\n]*", " ");
    return code.replaceAll("\"[^\"\n]*\"", "\"\"").replaceAll("'[^']'", "' '");
  }

  private static void words(String code) {
    String[] out = {"throw", "throws", "try", "catch", "synchronized", "assert", "import", "package", "instanceof",
      "Object", "Random", "Thread", "Runnable", "var", "native", "volatile", "transient", "yield"};
    for (String word : out) must(!Pattern.compile("\\b" + word + "\\b").matcher(code).find(), "no " + word);
    must(!code.contains("->") && !code.contains("::"), "no lambda, no method reference");
    must(!Pattern.compile("\\w+Exact\\b").matcher(code).find(), "nothing that ends in Exact");
    Matcher calls = Pattern.compile("\\b(System|Math|Integer|Arrays|Long)\\.(\\w+)").matcher(code);
    Set<String> may = Set.of("System.arraycopy", "Math.max", "Math.min", "Integer.bitCount", "Integer.numberOfTrailingZeros");
    while (calls.find()) must(may.contains(calls.group()), "rule 4, the library's " + calls.group());
  }

  /** Rule 4: what is called is the program's own, or of the library as far as it is listed; what is made, too. */
  private static void library(String code) {
    Set<String> may = new TreeSet<>(List.of("arraycopy", "max", "min", "bitCount", "numberOfTrailingZeros", "length", "charAt"));
    Set<String> own = new TreeSet<>(List.of("int"));
    for (Class<?> inside : WhoseThread.class.getDeclaredClasses()) {
      own.add(inside.getSimpleName());
      for (Method m : inside.getDeclaredMethods()) may.add(m.getName());
    }
    Matcher calls = Pattern.compile("\\.(\\w+)\\(").matcher(code);
    while (calls.find()) must(may.contains(calls.group(1)), "rule 4, a call of " + calls.group(1));
    Matcher made = Pattern.compile("\\bnew (\\w+)").matcher(code);
    while (made.find()) must(own.contains(made.group(1)), "rule 3, a new " + made.group(1));
    must(!code.contains("[]["), "rule 3, rows of one dimension");
    must(!code.contains("..."), "rule 3, no row of arguments");
  }

  private static void methods(String code) {
    int opened = -1;
    String[] lines = code.split("\n");
    for (int i = 0; i < lines.length; i++) {
      if (lines[i].matches(" {4}(?: {4})?[\\w<].*\\) \\{")) opened = i;
      if (opened >= 0 && lines[i].matches(" {4}(?: {4})?\\}")) {
        must(i - opened < 60, "a short method at line " + (opened + 1));
        opened = -1;
      }
    }
    must(WhoseThread.class.getDeclaredClasses().length <= 11, "twelve classes at most");
  }
}
