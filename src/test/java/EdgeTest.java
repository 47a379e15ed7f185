import java.lang.reflect.Method;
import java.nio.file.Files;
import java.nio.file.Path;
import java.util.ArrayList;
import java.util.Arrays;
import java.util.LinkedHashMap;
import java.util.List;
import java.util.Map;
import java.util.regex.Matcher;
import java.util.regex.Pattern;

/**
 * Each sentence of the document, quoted, with calls of just the boundary cases that it names. Calls are told in rows,
 * each with the answer that is due: "cut(0)=2 count(3)=NONE". Four names are of the test alone: spell(..) writes a
 * text and answers its length; flaw(..) is the fault of a text, which is erased then; tell(..) is loom() of a text;
 * all(n,call) does a call n times and answers as the last one did.
 */
public final class EdgeTest {
  private static final int NONE = -1, UNKNOWN = -2, OUTSIDE = -3, NOT = -4, FULL = -5;
  private static final int MOST_CALLS = 512;
  private static final Pattern CALL = Pattern.compile("(\\w+)\\(([^()]*(?:\\([^()]*\\))?[^()]*)\\)=(-?\\w+)");
  private static final Map<String, Method> FACE = new LinkedHashMap<>();
  /** What was quoted of each section, and how many answers were looked at behind each quote. */
  private static final Map<String, Map<String, Integer>> QUOTED = new LinkedHashMap<>();
  private static String section = "";
  private static String sentence = "";
  private static int wrong = 0;

  public static void main(String[] args) throws Exception {
    for (Method m : WhoseThread.class.getMethods()) {
      if (m.getDeclaringClass() == WhoseThread.class) FACE.put(m.getName(), m);
    }
    threads(); orders(); theText(); clauses(); loomClause(); threadClause(); overClause(); knotClause();
    cutClause(); calmAndFree(); ahead(); tokens(); faults(); behindTexts();
    fates(); years(); tops(); cuts(); losses(); days(); deeds(); kinds();
    takesAndLifts(); doom(); swapped(); tails(); given(); cat(); whoseAndFourth(); refused();
    p01to05(); p06to09(); p10to15(); p16to18(); p19to23(); p24to27(); p28to30();
    documentIsQuoted();
    tellWhatRan();
    if (wrong != 0) System.exit(1);
  }

  // ---- how it is told

  private static void says(String where, String quote) {
    section = where;
    sentence = quote;
    QUOTED.computeIfAbsent(where, w -> new LinkedHashMap<>()).putIfAbsent(quote, 0);
  }

  private static void fail(String what) {
    wrong++;
    System.out.println(section + ", \"" + sentence + "\": " + what);
  }

  private static Loom fresh() {
    return new Loom();
  }

  private static Loom told(String... texts) {
    Loom loom = new Loom();
    for (String text : texts) loom.due("tell", text, loom.call("tell", text), text.split(";").length);
    return loom;
  }

  private static String times(int n, String clause) {
    return String.join(";", java.util.Collections.nCopies(n, clause));
  }

  private static final class Loom {
    private final WhoseThread x = new WhoseThread();
    private final List<String> ran = new ArrayList<>();
    private int calls = 0;

    Loom run(String row) {
      Matcher m = CALL.matcher(row);
      int end = 0;
      while (m.find()) {
        if (!row.substring(end, m.start()).isBlank()) throw new IllegalStateException(row.substring(end, m.start()));
        end = m.end();
        due(m.group(1), m.group(2), call(m.group(1), m.group(2)), answer(m.group(3)));
      }
      if (!row.substring(end).isBlank()) throw new IllegalStateException(row.substring(end));
      return this;
    }

    private void due(String name, String arguments, int got, int want) {
      QUOTED.get(section).merge(sentence, 1, Integer::sum);
      String call = name + "(" + arguments + ")";
      if (got != want) fail(call + " answered " + got + ", due is " + want + ", behind " + ran);
      if (calls > MOST_CALLS) fail("the test calls one object " + calls + " times");
      ran.add(call);
    }

    private int call(String name, String arguments) {
      switch (name) {
        case "spell": return spell(arguments);
        case "tell":
          spell(arguments);
          return ask("loom");
        case "flaw": return flaw(arguments);
        case "all": return all(arguments);
        default: return ask(name, numbers(arguments));
      }
    }

    private int all(String arguments) {
      int comma = arguments.indexOf(',');
      Matcher m = CALL.matcher(arguments.substring(comma + 1) + "=0");
      if (!m.matches()) throw new IllegalStateException(arguments);
      int last = 0;
      for (int i = Integer.parseInt(arguments.substring(0, comma)); i > 0; i--) last = call(m.group(1), m.group(2));
      return last;
    }

    private int spell(String text) {
      int had = 0;
      for (char letter : text.toCharArray()) had = ask("write", (int) letter);
      return had;
    }

    /** A text with a fault is refused as a whole, and stays. */
    private int flaw(String text) {
      ask("erase");
      spell(text);
      int at = ask("fault");
      if (at != NONE) {
        int threads = ask("count", 0);
        if (ask("loom") != NOT) fail("loom() is not refused: " + text);
        if (ask("count", 8) != text.length()) fail("a refused text does not stay: " + text);
        if (ask("count", 0) != threads) fail("a refused text told threads: " + text);
      }
      ask("erase");
      return at;
    }

    private int ask(String name, Object... arguments) {
      calls++;
      try {
        return (Integer) FACE.get(name).invoke(x, arguments);
      } catch (ReflectiveOperationException | IllegalArgumentException e) {
        throw new IllegalStateException(name + Arrays.toString(arguments), e);
      }
    }
  }

  private static Object[] numbers(String arguments) {
    if (arguments.isBlank()) return new Object[0];
    String[] parts = arguments.split(",");
    Object[] numbers = new Object[parts.length];
    for (int i = 0; i < parts.length; i++) numbers[i] = answer(parts[i].trim());
    return numbers;
  }

  private static int answer(String word) {
    switch (word) {
      case "NONE": return NONE;
      case "UNKNOWN": return UNKNOWN;
      case "OUTSIDE": return OUTSIDE;
      case "NOT": return NOT;
      case "FULL": return FULL;
      case "MIN": return Integer.MIN_VALUE;
      case "MAX": return Integer.MAX_VALUE;
      default: return Integer.parseInt(word);
    }
  }

  // ---- 1: threads, orders, texts

  private static void threads() {
    says("What it is", "1 THREADS are 0, 1 .. as they come, 8 at most (none at first)");
    fresh().run("count(0)=0 count(3)=0 thread(0,0)=UNKNOWN");
    told("plain 1 0").run("count(0)=1 thread(0,1)=1 thread(1,1)=UNKNOWN tell(plain 2 0;plain 3 0)=2")
        .run("thread(0,1)=1 thread(1,1)=2 thread(2,1)=3 thread(3,1)=UNKNOWN");
    told(times(7, "silk 1 1")).run("count(0)=7 thread(7,0)=UNKNOWN flaw(silk 1 1)=NONE flaw(silk 1 1;silk 1 1)=9")
        .run("tell(silk 1 1)=1 count(0)=8 count(3)=255 thread(7,0)=2 thread(8,0)=UNKNOWN flaw(silk 1 1)=0 count(0)=8");
    says("What it is", "of a KIND, 0 PLAIN, 1 BRAVE, 2 SILK, 3 ENDLESS");
    told("plain 9 0;brave 9 0;silk 9 0;endless 9 0").run("thread(0,0)=0 thread(1,0)=1 thread(2,0)=2 thread(3,0)=3");
    says("What it is", "of a LENGTH (1 ..");
    for (String kind : new String[] {"plain", "brave", "silk", "endless"}) {
      int at = kind.length() + 1;
      fresh().run("flaw(" + kind + " 0 0)=" + at + " flaw(" + kind + " 00 0)=" + at + " tell(" + kind + " 1 0)=1 thread(0,1)=1");
    }
    says("Terms", "60 DAYS)");
    for (String kind : new String[] {"plain", "brave", "silk", "endless"}) {
      int at = kind.length() + 1;
      fresh().run("flaw(" + kind + " 61 0)=" + at + " flaw(" + kind + " 99 0)=" + at + " tell(" + kind + " 60 0)=1 thread(0,1)=60");
    }
    says("Terms", "of a COLOUR (0 .. 3)");
    for (String kind : new String[] {"plain", "brave", "silk", "endless"}) {
      int at = kind.length() + 3;
      fresh().run("flaw(" + kind + " 9 4)=" + at + " flaw(" + kind + " 9 99)=" + at)
          .run("tell(" + kind + " 9 0;" + kind + " 9 3)=2 thread(0,2)=0 thread(1,2)=3");
    }
    says("Terms", "Some lie OVER others, some are KNOTTED to others (none at first).");
    fresh().run("count(5)=0 count(6)=0");
    told("plain 9 0;plain 9 0").run("count(5)=0 count(6)=0 thread(0,4)=0 thread(0,5)=0 thread(1,4)=0 thread(1,5)=0");
    says("What it is", "An object is used for at most 512 calls after it has been made");
    told("plain 60 0").run("all(250,dye(0,1))=1 all(249,dye(0,2))=2 undo()=7 count(7)=7");
  }

  private static void orders() {
    says("Terms", "ORDERS, 6 at most (none at first): to CUT a THREAD on a DAY (0 .. 99).");
    fresh().run("count(1)=0 order(0,0)=UNKNOWN order(0,1)=UNKNOWN");
    told("plain 9 0;cut 0 0;cut 0 99").run("count(1)=2 order(0,1)=0 order(1,1)=99 order(2,1)=UNKNOWN")
        .run("flaw(cut 0 99)=NONE flaw(cut 0 100)=6 flaw(cut 0 00)=NONE flaw(cut 0 000)=6");
    told("plain 9 0;" + times(5, "cut 0 9")).run("count(1)=5 order(4,1)=9 order(5,1)=UNKNOWN tell(cut 0 8)=1 count(1)=6")
        .run("order(5,1)=8 order(6,1)=UNKNOWN flaw(cut 0 7)=0 count(1)=6");
    told("plain 9 0;cut 0 0").run("go(1)=9 thread(0,6)=0");
  }

  private static void theText() {
    says("Terms", "THE TEXT is a row of letters, 160 at most:");
    String blanks = " ".repeat(156);
    fresh().run("spell(" + blanks + "cal)=159 fault()=156 write(109)=160 fault()=NONE write(109)=FULL fault()=NONE count(8)=160 loom()=1 count(8)=0 write(97)=1");
    fresh().run("spell(calm;" + blanks.substring(1) + ")=160 fault()=160 write(97)=FULL fault()=160 loom()=NOT count(8)=160");
    fresh().run("spell(calm" + blanks.substring(1) + ";)=160 fault()=160");
    fresh().run("spell(calm" + blanks.substring(1) + "x)=160 fault()=159");
    fresh().run("spell(plain 1" + " ".repeat(152) + "1)=160 fault()=NONE loom()=1 thread(0,2)=1");
    fresh().run("spell(" + "a".repeat(160) + ")=160 fault()=0");
    fresh().run("spell(calm;" + "a".repeat(155) + ")=160 fault()=5");
    fresh().run("spell(plain " + "1".repeat(154) + ")=160 fault()=6");
  }

  private static void clauses() {
    says("Terms", "CLAUSES with ; between, 14 at most;");
    fresh().run("flaw(calm)=NONE flaw(calm;calm)=NONE flaw(;)=0 flaw(;calm)=0 flaw(calm;)=5 flaw(calm;;calm)=5 flaw(calm calm)=5 flaw(calm,calm)=4 flaw(calm:calm)=4");
    String most = times(14, "calm");
    fresh().run("tell(" + most + ")=14 flaw(" + most + " )=NONE flaw(" + most + ";)=69 flaw(" + most + ";calm)=69");
    fresh().run("flaw(" + most + " ; calm)=70 flaw(" + most + "calm)=65 flaw(" + most + " calm)=70 tell(" + times(13, "calm") + ")=13");
    says("Terms", "each is one of: loom. plain L C. brave L C. silk L C. endless L C. over A B. knot A B. cut A D. calm. free.");
    for (String word : new String[] {"loom", "calm", "free"}) {
      told("plain 9 0").run("flaw(" + word + ")=NONE flaw(" + word + " 0)=" + (word.length() + 1) + " flaw(" + word.substring(1) + ")=0 flaw(" + word + word + ")=0");
    }
    for (String word : new String[] {"plain", "brave", "silk", "endless", "over", "knot", "cut"}) {
      int end = word.length();
      told("plain 9 0;plain 9 0").run("flaw(" + word + " 1 0)=NONE flaw(" + word + ")=" + end + " flaw(" + word + " 1)=" + (end + 2))
          .run("flaw(" + word + " 1 0 1)=" + (end + 5) + " flaw(" + word + ";)=" + end + " flaw(" + word + " 1;)=" + (end + 2))
          .run("flaw(" + word.substring(0, end - 1) + " 1 0)=0 flaw(" + word + "s 1 0)=0 flaw(" + word + " " + word + " 1 0)=" + (end + 1));
    }
    fresh().run("flaw(thread 9 0)=0 flaw(shears)=0 flaw(order 0 0)=0 flaw(text)=0");
    for (String clause : new String[] {"loom", "plain 1 0", "brave 1 0", "silk 1 0", "endless 1 0", "over 1 0", "knot 1 0", "cut 1 0", "calm", "free"}) {
      Loom loom = told("plain 9 0;plain 9 0").run("flaw(" + clause + ")=NONE");
      for (int i = 0; i < clause.split(" ")[0].length(); i++) loom.run("flaw(" + clause.substring(0, i) + "x" + clause.substring(i + 1) + ")=0");
    }
    says("Terms", "(As written here, without points;");
    told("plain 9 0").run("flaw(loom.)=4 flaw(plain 9 0.)=9 flaw(plain 9. 0)=7 flaw(.calm)=0 flaw(cut 0 9.)=7 flaw(Loom)=0 flaw(LOOM)=0");
  }

  private static void loomClause() {
    says("Terms", "loom: all as at first;");
    fresh().run("tell(loom)=1 count(0)=0 count(1)=0 tell(loom;loom)=2 count(0)=0");
    told(times(8, "silk 1 1"), "over 1 0;knot 0 1;knot 6 7;" + times(6, "cut 7 9"))
        .run("count(0)=8 count(1)=6 tell(loom)=1 count(0)=0 count(1)=0 count(3)=0 count(5)=0 count(6)=0 thread(0,0)=UNKNOWN order(0,0)=UNKNOWN")
        .run("tell(" + times(8, "plain 9 0") + ")=8 count(0)=8 count(5)=0 count(6)=0 thread(0,4)=0 thread(7,5)=0 tell(" + times(6, "cut 7 8") + ")=6 order(5,1)=8");
    told(times(8, "silk 1 1")).run("flaw(silk 1 1;loom)=0 tell(loom;" + times(8, "brave 2 2") + ")=9 thread(7,0)=1 flaw(loom;" + times(9, "silk 1 1") + ")=77");
    told("plain 9 0;cut 0 0").run("flaw(loom;cut 0 0)=9 flaw(loom;over 0 0)=10 flaw(loom;plain 1 1;cut 1 0)=19 tell(plain 8 0;loom)=2 count(0)=0");
  }

  private static void threadClause() {
    says("Terms", "plain ..: a THREAD more of LENGTH L, COLOUR C, a ninth cannot stand there (at its word);");
    told("plain 7 2").run("count(0)=1 thread(0,0)=0 thread(0,1)=7 thread(0,2)=2 tell(endless 60 3)=1 thread(1,1)=60 thread(1,2)=3 count(0)=2");
    fresh().run("flaw(" + times(8, "silk 1 1") + ")=NONE flaw(" + times(9, "silk 1 1") + ")=72 flaw(" + times(8, "silk 1 1") + "; silk)=73 count(0)=0");
    told(times(8, "plain 9 0")).run("flaw(plain 9 0)=0 flaw(brave 9 0)=0 flaw(silk 9 0)=0 flaw(endless 9 0)=0 flaw(calm; silk 9 0)=6")
        .run("flaw(plain 61 0)=0 flaw(plain)=0 flaw(plain x)=0 flaw(loom;plain 9 0)=NONE count(0)=8 flaw(over 1 0;knot 1 0;cut 0 0;calm;free)=NONE");
  }

  private static void overClause() {
    says("Terms", "over: A lies OVER B, unlike, and no ring comes of it, of THREADS each OVER the next (else a FAULT at B);");
    told("plain 9 0;plain 9 0;plain 9 0").run("flaw(over 0 0)=7 flaw(over 2 02)=7 flaw(over 0 1;over 1 0)=16 flaw(over 0 1;over 1 2;over 2 0)=25")
        .run("flaw(over 0 1;over 1 2;over 0 2)=NONE flaw(over 0 1;over 0 2)=NONE flaw(over 0 2;over 1 2)=NONE tell(over 1 0)=1 thread(0,4)=2 thread(1,4)=0")
        .run("flaw(over 0 1)=7 flaw(over 1 0)=NONE tell(over 1 0;over 1 0)=2 count(6)=1 flaw(over  0  1)=9");
    told(times(8, "plain 9 0"), "over 7 6;over 6 5;over 5 4;over 4 3;over 3 2;over 2 1;over 1 0").run("count(6)=7 flaw(over 0 7)=7 flaw(over 7 0)=NONE flaw(over 3 7)=7 flaw(over 7 3)=NONE");
    // A ring is of what texts told: what was laid and lifted since goes.
    told("plain 9 0;plain 9 0;over 1 0").run("lift(1)=1 put(0,1)=1 flaw(over 0 1)=7 flaw(over 1 0)=NONE tell(calm)=1 thread(0,4)=2 thread(1,4)=0");
  }

  private static void knotClause() {
    says("Terms", "knot: A, B are KNOTTED, unlike (else a FAULT at B);");
    told("plain 9 0;plain 9 0;plain 9 0").run("flaw(knot 0 0)=7 flaw(knot 2 2)=7 flaw(knot 2 02)=7 flaw(knot 0 3)=7 flaw(knot 3 0)=5 flaw(knot 3 3)=5")
        .run("tell(knot 0 1;knot 1 2;knot 2 0;knot 1 0)=4 count(5)=3 thread(0,5)=6 thread(1,5)=5 thread(2,5)=3 tell(knot 0 1)=1 count(5)=3");
  }

  private static void cutClause() {
    says("Terms", "cut: an ORDER more, a seventh cannot stand there;");
    fresh().run("tell(plain 9 0)=1 flaw(" + times(6, "cut 0 9") + ")=NONE flaw(" + times(7, "cut 0 9") + ")=48 count(1)=0")
        .run("tell(" + times(6, "cut 0 9") + ")=6 flaw(cut 0 9)=0 flaw(cut)=0 flaw(cut 5 100)=0 flaw(free;cut 0 9)=5 flaw(calm;cut 0 9)=NONE count(1)=6")
        .run("flaw(plain 9 0;brave 9 0;silk 9 0;endless 9 0;over 1 0;knot 1 0)=NONE flaw(loom)=NONE");
  }

  private static void calmAndFree() {
    says("Terms", "calm: no ORDERS;");
    fresh().run("tell(calm)=1 count(1)=0");
    told("plain 9 0;plain 9 0;over 0 1;knot 0 1;" + times(6, "cut 0 9")).run("tell(calm)=1 count(1)=0 order(0,0)=UNKNOWN count(0)=2 count(5)=1 count(6)=1")
        .run("tell(" + times(6, "cut 1 8") + ")=6 count(1)=6 tell(calm;cut 0 7)=2 count(1)=1 order(0,1)=7 order(1,1)=UNKNOWN");
    told("plain 9 0;" + times(6, "cut 0 9")).run("tell(calm;" + times(6, "cut 0 8") + ")=7 count(1)=6 order(0,1)=8 flaw(calm;" + times(7, "cut 0 8") + ")=53");
    says("Terms", "free: none OVER another, none KNOTTED;");
    fresh().run("tell(free)=1 count(5)=0 count(6)=0");
    told("plain 9 0;plain 9 0;plain 9 0;over 1 0;over 2 1;knot 0 1;knot 1 2;cut 0 9").run("count(5)=2 count(6)=2 tell(free)=1 count(5)=0 count(6)=0 count(0)=3 count(1)=1")
        .run("thread(0,4)=0 thread(1,4)=0 thread(0,5)=0 thread(1,5)=0 thread(2,5)=0 flaw(over 0 1;over 1 2)=NONE")
        .run("tell(over 1 0;free;over 0 1;knot 0 2)=4 thread(0,4)=0 thread(1,4)=1 count(5)=1");
  }

  private static void ahead() {
    says("Terms", "THREADS such as there are behind the CLAUSES ahead;");
    fresh().run("flaw(cut 0 0)=4 flaw(over 0 1)=5 flaw(knot 0 1)=5 flaw(cut 0 0;plain 9 0)=4 flaw(plain 9 0;cut 0 0)=NONE flaw(plain 9 0;cut 1 0)=14")
        .run("flaw(plain 9 0;over 0 1)=17 flaw(plain 9 0;over 0 1;plain 9 0)=17 flaw(plain 9 0;plain 9 0;over 0 1)=NONE flaw(plain 9 0;knot 0 1)=17");
    told("plain 9 0").run("flaw(cut 0 0)=NONE flaw(cut 1 0)=4 flaw(plain 9 0;cut 1 0)=NONE flaw(plain 9 0;loom;cut 0 0)=19");
    told(times(8, "plain 9 0")).run("flaw(cut 7 0)=NONE flaw(cut 8 0)=4 flaw(cut 07 0)=NONE flaw(cut 10 0)=4 flaw(cut 007 0)=4 flaw(over 7 8)=7 flaw(over 8 7)=5 flaw(over 99 0)=5");
  }

  private static void tokens() {
    says("Terms", "small letters a .. z, numbers of 1 or 2 digits, blanks between;");
    told("plain 9 0;plain 9 0").run("flaw(calM)=0 flaw(caLm)=0 flaw(calm`)=4 flaw(calm{)=4 flaw(calm@)=4 flaw(calm[)=4 flaw(calmz)=0 flaw(calma)=0 flaw(" + (char) 233 + "calm)=0")
        .run("flaw(cut 0 9)=NONE flaw(cut 0 09)=NONE flaw(cut 0 009)=6 flaw(cut 00 9)=NONE flaw(cut 000 9)=4 flaw(cut 0 /)=6 flaw(cut 0 :)=6 flaw(cut 0 9:)=7 flaw(cut 0 9/)=7")
        .run("flaw(cut 0 -1)=6 flaw(cut 0 +1)=6 flaw(cut 0 1 1)=8 flaw(cut 0,1)=5");
    told("plain 9 0;plain 9 0").run("flaw(   calm   )=NONE flaw(calm  ;  calm)=NONE flaw(over   1   0)=NONE flaw(over1 0)=NONE flaw(over 10)=5 flaw(cut0 1;calm)=NONE")
        .run("flaw(ca lm)=0 flaw(calm\t)=4 flaw(calm\n)=4 flaw(\tcalm)=0 flaw(calm" + (char) 160 + ")=4 flaw(calm" + (char) 0 + ")=4 flaw(over\t1 0)=4 flaw(cut 0 1 )=NONE");
    says("Terms", "what earlier texts told stays.)");
    told("plain 9 1;brave 8 2;over 1 0;knot 0 1;cut 0 9", "silk 7 3").run("count(0)=3 thread(0,1)=9 thread(1,0)=1 thread(2,0)=2 count(1)=1 count(5)=1 count(6)=1")
        .run("tell(over 2 1;cut 2 8)=2 thread(0,4)=2 thread(1,4)=4 count(1)=2 order(0,1)=9 order(1,1)=8 flaw(over 0 2)=7");
  }

  private static void faults() {
    says("Terms", "A FAULT is at the first TOKEN (a row of small letters, a row of digits, any other letter) that cannot stand there"
        + " (a number out of its bounds, of more digits, also), or at the end, if it comes too soon.");
    told("plain 9 0;plain 9 0").run("flaw(calmfree)=0 flaw(calm0)=4 flaw(calm;0calm)=5 flaw(calm;calm!!)=9 flaw(!!)=0 flaw(plain20 1)=NONE flaw(plain 20a1)=8")
        .run("flaw(plain a 1)=6 flaw(plain !1 1)=6 flaw(plain 1! 1)=7 flaw(plain 1 !)=8 flaw(0)=0 flaw(calm 00)=5 flaw(loom;x;y)=5 flaw(x;loom)=0")
        .run("flaw(plain 61 9)=6 flaw(plain 6 9)=8 flaw(plain 001 1)=6 flaw(plain 1 001)=8 flaw(cut 9 100)=4 flaw(cut 1 100)=6");
    fresh().run("flaw()=0 flaw( )=1 flaw(   )=3 flaw(plain)=5 flaw(plain )=6 flaw(plain  )=7 flaw(plain 9)=7 flaw(plain 9 )=8 flaw(plain 9 9)=8 flaw(plain 9 0;)=10 flaw(plain 9 0; )=11")
        .run("flaw(plain 9 0;cut)=13 flaw(plain 9 0;cut )=14 flaw(plain 9 0;cut 0)=15 flaw(plain 9 0;cut 0 )=16 flaw(c)=0 flaw(ca)=0 flaw(plai)=0");
    fresh().run("spell(" + " ".repeat(155) + "plain)=160 fault()=160 loom()=NOT");
    fresh().run("tell(silk 1 1)=1 spell(" + " ".repeat(154) + "over 0)=160 fault()=160 loom()=NOT");
    fresh().run("tell(silk 1 1)=1 spell(" + " ".repeat(155) + "calm;)=160 fault()=160 loom()=NOT");
    // What was erased is not read on behind the end.
    told("plain 9 0;plain 9 0").run("flaw(xxxxxx0000)=0 flaw(over 1)=6 flaw(knot 1)=6 flaw(plain 1 00000)=8 flaw(plain 1)=7 flaw(xxx 1 0)=0 flaw(cut)=3 flaw(calm;free)=NONE flaw(calm;)=5");
    says("Terms", "CLAUSES are done in their order.");
    told("plain 9 0;plain 9 0").run("tell(cut 0 1;calm)=2 count(1)=0 tell(calm;cut 0 1)=2 count(1)=1 tell(calm;cut 1 5;cut 0 4)=3 order(0,1)=5 order(1,1)=4")
        .run("tell(over 0 1;knot 0 1;free)=3 count(5)=0 count(6)=0 tell(free;over 0 1;knot 0 1)=3 count(5)=1 count(6)=1 tell(plain 3 3;loom)=2 count(0)=0 tell(loom;plain 3 3)=2 count(0)=1");
  }

  private static void behindTexts() {
    says("Terms", "Behind them it is DAY 0, all THREADS are WHOLE, of COLOURS, OVER one another, KNOTTED as texts told"
        + " (what was DYED, LAID, LIFTED, KNOTTED else goes), nothing is kept or can be undone.");
    told("plain 9 1;plain 2 2;plain 9 3;plain 9 0;over 1 0;knot 0 1").run("keep(0)=0 keep(1)=0 dye(0,3)=1 put(2,0)=2 lift(1)=1 knot(0,1,0)=1 knot(2,3,1)=0 cut(3)=2 go(3)=0")
        .run("count(2)=3 count(3)=1 count(4)=18 count(7)=7 thread(1,3)=2 thread(2,3)=1 tell(calm)=1 count(2)=0 count(3)=15 count(4)=0 count(7)=0 undo()=NOT back(0)=NOT back(1)=NOT")
        .run("thread(0,2)=1 thread(0,4)=2 thread(0,5)=2 thread(1,3)=0 thread(2,3)=0 thread(2,5)=0 thread(2,6)=NONE thread(3,6)=NONE count(5)=1 count(6)=1")
        .run("tails(NONE)=0 go(9)=0 thread(0,3)=2 thread(2,3)=2 thread(3,3)=2");
    // A refused text leaves all of this.
    told("plain 9 1;plain 9 2").run("keep(0)=0 go(3)=0 dye(0,3)=1 spell(calm;x)=6 loom()=NOT count(2)=3 count(7)=2 thread(0,2)=3 undo()=1 undo()=0 back(0)=0");
  }

  // ---- 2: cuts and days

  private static void fates() {
    says("Terms", "A THREAD is WHOLE, CUT, or RUN OUT.");
    told("plain 9 0;plain 9 0;plain 2 0").run("thread(0,3)=0 thread(1,3)=0 thread(2,3)=0 cut(1)=1 go(1)=0 thread(2,3)=0 go(1)=0 thread(0,3)=0 thread(1,3)=1 thread(2,3)=2 count(3)=1")
        .run("go(20)=0 thread(0,3)=2 thread(1,3)=1 thread(2,3)=2 count(3)=0");
  }

  private static void years() {
    says("Terms", "YEARS of one: its LENGTH less the DAY (0 at least, of a WHOLE one; a BRAVE one's twice as many; of an ENDLESS one 0).");
    told("plain 3 0;brave 3 0;silk 3 0;endless 3 0;plain 3 0").run("as(0,0)=3 as(1,0)=6 as(2,0)=3 as(3,0)=0 go(2)=0 as(0,0)=1 as(1,0)=2 as(2,0)=1 as(3,0)=0 cut(4)=1 as(4,0)=0 go(1)=0")
        .run("as(0,0)=0 as(1,0)=0 as(2,0)=0 as(3,0)=0 as(4,0)=0 go(1)=0 as(0,0)=0 as(1,0)=0 as(3,0)=0");
    told("plain 60 0;brave 60 0;endless 60 0;plain 1 0").run("as(0,0)=60 as(1,0)=120 as(2,0)=0 as(3,0)=1 go(59)=0 as(0,0)=1 as(1,0)=2 as(3,0)=0 go(1)=0 as(0,0)=0 as(1,0)=0");
  }

  private static void tops() {
    says("Terms", "TOP of a WHOLE one: of those that are WHOLE and lie OVER it the least, of those OVER that the least, and so on, to one with none OVER it; with none it is its own.");
    told("plain 9 0").run("top(0)=0");
    told("plain 9 0;plain 9 0;plain 9 0;plain 2 0;over 3 0;over 2 0;over 1 2;over 1 3").run("top(0)=1 top(2)=1 top(3)=1 top(1)=1 lift(1)=2 top(0)=2 lift(2)=1 top(0)=3 go(2)=0 top(0)=0 top(3)=NOT");
    // Of those over it the least, even where another would lead to a lesser top.
    told("plain 9 0;plain 9 0;plain 9 0;plain 9 0;plain 9 0;over 2 1;over 3 1;over 4 2;over 0 3").run("top(1)=4 top(2)=4 top(3)=0 cut(2)=1 top(1)=2 cut(1)=1 top(1)=0 cut(1)=1 top(1)=3 cut(1)=1 top(1)=1");
    told(times(8, "plain 9 0"), "over 1 0;over 2 1;over 3 2;over 4 3;over 5 4;over 6 5;over 7 6").run("top(0)=7 top(6)=7 top(7)=7 lift(7)=1 top(0)=6");
    told(times(8, "plain 9 0"), "over 6 7;over 5 6;over 4 5;over 3 4;over 2 3;over 1 2;over 0 1").run("top(7)=0 top(0)=0 cut(7)=1 top(7)=1 top(0)=NOT");
  }

  private static void cuts() {
    says("Terms", "A CUT at one falls on its TOP; if that is ENDLESS, on nothing; else on it and all that are KNOTTED to it, to these, and so on (WHOLE ones; ENDLESS ones, too): they are CUT.");
    told("plain 9 0").run("takes(0)=1 cut(0)=1 thread(0,3)=1 count(3)=0");
    told("plain 9 0;plain 9 0;over 1 0").run("takes(0)=2 cut(0)=1 thread(0,3)=0 thread(1,3)=1 cut(0)=1 count(3)=0");
    told("plain 9 0;endless 9 0;plain 9 0;over 1 0;knot 1 2;knot 0 2").run("takes(0)=0 takes(1)=0 cut(0)=0 cut(1)=0 count(3)=7 takes(2)=7 cut(2)=3 count(3)=0 thread(1,3)=1 thread(1,6)=0");
    // Knots lead through endless ones, not through such as are not whole, and fall on what has others over it.
    told("plain 9 0;endless 9 0;plain 9 0;plain 9 0;knot 0 1;knot 1 2;over 3 2").run("takes(0)=7 takes(2)=8 cut(0)=3 count(3)=8 takes(3)=8");
    told("plain 9 0;plain 2 0;plain 9 0;plain 9 0;knot 0 1;knot 1 2;knot 2 3").run("takes(0)=15 go(2)=0 takes(0)=1 takes(2)=12 cut(3)=2 takes(0)=1 count(3)=1");
    told(times(8, "plain 9 0"), "knot 0 7;knot 7 1;knot 1 6;knot 6 2;knot 2 5;knot 5 3;knot 3 4").run("takes(4)=255 takes(0)=255 cut(0)=8 count(3)=0 count(4)=72");
    told("endless 9 0;endless 9 0;knot 0 1").run("takes(0)=0 cut(0)=0 cut(1)=0 count(3)=3");
    says("Terms", "(At one that is not WHOLE: on nothing.)");
    told("plain 9 0;plain 2 0;plain 9 0;plain 9 0;over 2 1;over 3 0;cut 0 0;cut 0 0;cut 3 0;cut 3 3;cut 1 4").run("doom(1)=9 go(1)=18 thread(0,3)=1 takes(0)=0 takes(3)=0 loss(0)=0 go(1)=0 takes(1)=0 loss(1)=0 go(9)=0 thread(2,3)=2 count(4)=18");
  }

  private static void losses() {
    says("Terms", "LOSS is YEARS of all that are CUT by it, as they were; of a SILK one its YEARS are not lost (it is CUT, though).");
    told("plain 9 0;brave 8 0;silk 7 0;endless 6 0;knot 0 1;knot 1 2;knot 2 3").run("loss(0)=25 loss(2)=25 loss(3)=0 go(4)=0 loss(0)=13 cut(2)=4 count(4)=13 count(3)=0 thread(2,3)=1 thread(3,3)=1");
    told("silk 60 0").run("takes(0)=1 loss(0)=0 as(0,0)=60 cut(0)=1 count(4)=0 thread(0,3)=1 thread(0,6)=0");
    told("plain 5 0").run("go(4)=0 loss(0)=1 cut(0)=1 count(4)=1 loss(0)=0 count(4)=1");
    told("brave 60 0;" + times(7, "brave 60 0"), "knot 0 1;knot 1 2;knot 2 3;knot 3 4;knot 4 5;knot 5 6;knot 6 7").run("loss(7)=960 cut(0)=8 count(4)=960");
  }

  private static void days() {
    says("Terms", "A DAY ends: first its ORDERS are done, by their numbers; then it is the next DAY, and WHOLE THREADS whose LENGTH is no more than that have RUN OUT (ENDLESS ones do not).");
    told("plain 1 0;plain 2 0;endless 1 0").run("go(1)=0 thread(0,3)=2 thread(1,3)=0 thread(2,3)=0 count(2)=1 go(1)=0 thread(1,3)=2 thread(2,3)=0 thread(0,6)=NONE");
    told("plain 5 0;cut 0 4").run("go(4)=0 thread(0,3)=0 go(1)=1 thread(0,3)=1 thread(0,6)=4 count(2)=5");
    told("plain 5 0;cut 0 5").run("go(5)=0 thread(0,3)=2 go(1)=0 thread(0,3)=2 thread(0,6)=NONE");
    told("plain 60 0;cut 0 0").run("go(1)=60 thread(0,6)=0 count(2)=1");
    told("plain 60 0;cut 0 59").run("go(59)=0 go(1)=1");
    told("plain 60 0;cut 0 60").run("go(99)=0 thread(0,3)=2");
    // By their numbers: 1 over 0 is cut first by the one, and last by the other.
    told("plain 20 0;plain 9 0;over 1 0;cut 0 3;cut 1 3").run("go(4)=6 thread(1,3)=1 thread(0,3)=0");
    told("plain 20 0;plain 9 0;over 1 0;cut 1 3;cut 0 3").run("go(4)=23 thread(1,3)=1 thread(0,3)=1");
    told("endless 1 0;plain 60 0;over 0 1;cut 1 99").run("all(10,go(99))=0 go(9)=0 count(2)=999 thread(0,3)=0 thread(1,3)=2 count(3)=1");
    told("plain 60 0;plain 60 0;over 1 0;" + times(6, "cut 0 7")).run("go(8)=106 count(3)=0 count(4)=106");
  }

  private static void deeds() {
    says("Terms", "LAID is one OVER another (no ring may come of it); LIFTED is one off all that it lies OVER; KNOTTED are two; DYED is one to a COLOUR.");
    told("plain 9 0;plain 9 0;plain 9 0;plain 9 0").run("put(1,0)=1 put(0,1)=NOT put(2,1)=1 put(0,2)=NOT put(1,2)=NOT put(2,0)=2 put(2,3)=1 count(6)=4 thread(0,4)=6")
        .run("lift(2)=3 count(6)=1 thread(1,4)=0 thread(3,4)=0 thread(0,4)=2 put(0,2)=1 put(2,1)=NOT")
        .run("knot(3,2,1)=0 thread(2,5)=8 thread(3,5)=4 count(5)=1 dye(3,3)=0 thread(3,2)=3 thread(2,2)=0");
    told(times(8, "plain 9 0")).run("put(1,0)=1 put(2,0)=2 put(3,0)=3 put(4,0)=4 put(5,0)=5 put(6,0)=6 put(7,0)=7 thread(0,4)=254 put(7,6)=1 put(7,5)=1 lift(7)=3 thread(0,4)=126");
  }

  private static void kinds() {
    says("Terms", "KINDS are over one another: THREAD (0); PLAIN (1) under it; BRAVE (2) is PLAIN; SILK (3) is PLAIN; ENDLESS (4) is a THREAD.");
    told("plain 5 0;brave 5 0;silk 5 0;endless 5 0").run("as(0,0)=5 as(0,1)=5 as(0,2)=NOT as(0,3)=NOT as(0,4)=NOT as(1,0)=10 as(1,1)=10 as(1,2)=10 as(1,3)=NOT as(1,4)=NOT")
        .run("as(2,0)=5 as(2,1)=5 as(2,2)=NOT as(2,3)=5 as(2,4)=NOT as(3,0)=0 as(3,1)=NOT as(3,2)=NOT as(3,3)=NOT as(3,4)=0");
  }

  // ---- 3: foretold

  private static void takesAndLifts() {
    says("Terms", "FORETOLD from now (nothing changes).");
    told("plain 9 0;plain 9 0;over 1 0;cut 0 3").run("keep(1)=0 go(2)=0 dye(0,1)=0 takes(0)=2 loss(0)=7 lifts(0,0)=1 doom(0)=6 doom(1)=2 swapped(NONE)=6 swapped(0)=3 tails(NONE)=0 given(0,1,0)=1 cat(0,0)=0 mean(0)=7 whose(2)=3 fourth(0)=0")
        .run("count(2)=2 count(3)=3 count(4)=0 count(6)=1 count(7)=2 thread(0,2)=1 thread(1,6)=NONE order(0,1)=3 undo()=1 undo()=0 back(1)=0");
    says("Terms", "TAKES of one: all that a CUT at it would fall on, by bits; LOSS by it.");
    told(times(7, "plain 9 0") + ";brave 9 0", "knot 7 0;over 6 5").run("takes(7)=129 loss(7)=27 takes(5)=64 loss(5)=9 takes(6)=64 go(9)=0 takes(7)=0 loss(7)=0 takes(5)=0");
    says("Terms", "LIFTS of a WHOLE one: the fewest WHOLE THREADS (it not) to be LIFTED so that its TOP is itself: how many, the set, of several the least (bits).");
    told("plain 9 0").run("lifts(0,0)=0 lifts(0,1)=0");
    told("plain 9 0;plain 2 0;plain 9 0;plain 9 0;plain 9 0;over 1 0;over 2 0;over 3 2;over 3 1;over 4 0").run("lifts(0,0)=3 lifts(0,1)=22 lifts(2,0)=1 lifts(2,1)=8 lifts(3,0)=0 lifts(3,1)=0")
        .run("go(2)=0 lifts(0,0)=2 lifts(0,1)=20 cut(4)=1 lifts(0,1)=4 lift(2)=1 top(0)=0 lifts(0,0)=0 lifts(0,1)=0 lifts(2,1)=8");
    told(times(8, "endless 9 0"), "over 1 0;over 2 0;over 3 0;over 4 0;over 5 0;over 6 0;over 7 0;over 7 1").run("lifts(0,0)=7 lifts(0,1)=254 lifts(1,1)=128 lifts(7,0)=0");
  }

  private static void doom() {
    says("Terms", "DOOM: LOSS of all ORDERS to come, by DAYS up to 99 (those of this one, too), if nothing else is done; who will be CUT then, by bits.");
    told("plain 9 0").run("doom(0)=0 doom(1)=0");
    told("plain 9 0;plain 60 0;cut 0 3;cut 1 59").run("doom(0)=7 doom(1)=3 go(3)=0 doom(0)=7 doom(1)=3 go(1)=6 doom(0)=1 doom(1)=2 go(55)=0 count(2)=59 doom(0)=1 doom(1)=2 go(1)=1 doom(0)=0 doom(1)=0");
    told("plain 9 0;plain 9 0;cut 0 9;cut 1 8").run("doom(0)=1 doom(1)=2 cut(1)=1 doom(0)=0 doom(1)=0");
    told("endless 1 0;plain 9 0;cut 0 99").run("doom(0)=0 doom(1)=0 go(99)=0 doom(0)=0 go(1)=0 doom(0)=0 doom(1)=0 all(8,go(99))=0 go(99)=0 count(2)=991 go(9)=FULL go(8)=0 doom(0)=0 doom(1)=0 count(2)=999");
    told("silk 9 0;endless 9 0;knot 0 1;cut 0 0").run("doom(0)=0 doom(1)=3");
    told("plain 9 0;plain 8 0;over 1 0;cut 0 0;cut 0 1;cut 0 2").run("doom(0)=16 doom(1)=3");
  }

  private static void swapped() {
    says("Terms", "SWAPPED: DAYS of ORDERS to come dealt among these otherwise (each keeps its THREAD; those of DAYS that are gone keep theirs, too): the least LOSS as of DOOM; the DAY of each ORDER in the first such row (by ORDERS, lesser DAYS first).");
    told("plain 9 0").run("swapped(NONE)=0 swapped(0)=UNKNOWN");
    told("plain 9 0;cut 0 3").run("swapped(NONE)=6 swapped(0)=3 swapped(1)=UNKNOWN go(3)=0 swapped(NONE)=6 go(1)=6 swapped(NONE)=0 swapped(0)=3");
    // 0 is to live on to day 7, when it has 13 years; 1 has run out by then, and loses all of 4 on day 0.
    told("plain 20 0;plain 4 0;cut 0 0;cut 1 7").run("doom(0)=20 swapped(NONE)=17 swapped(0)=7 swapped(1)=0 order(0,1)=0 order(0,0)=0");
    told("plain 20 0;plain 4 0;cut 0 7;cut 1 0").run("doom(0)=17 swapped(NONE)=17 swapped(0)=7 swapped(1)=0");
    told("plain 20 0;plain 20 0;cut 0 2;cut 1 9").run("go(3)=18 swapped(NONE)=11 swapped(0)=2 swapped(1)=9");
    // 5 10 0 (4 + 5 + 6) and 10 0 5 (0 + 15 + 0) lose alike, and least; so with an order ahead that is gone.
    told("brave 7 0;plain 15 0;brave 3 0;cut 0 0;cut 1 5;cut 2 10").run("doom(0)=24 swapped(NONE)=15 swapped(0)=5 swapped(1)=10 swapped(2)=0");
    told("silk 60 0;brave 8 0;plain 16 0;brave 4 0;cut 0 0;cut 1 1;cut 2 6;cut 3 11").run("go(1)=0 doom(0)=24 swapped(NONE)=15 swapped(0)=0 swapped(1)=6 swapped(2)=11 swapped(3)=1");
    // Of rows with like losses the first: lesser days to lesser orders.
    told("silk 9 0;silk 9 0;silk 9 0;cut 0 5;cut 1 3;cut 2 4").run("swapped(NONE)=0 swapped(0)=3 swapped(1)=4 swapped(2)=5 go(4)=0 swapped(0)=4 swapped(1)=3 swapped(2)=5");
    told("plain 20 0;plain 20 0;cut 0 9;cut 1 2").run("swapped(NONE)=29 swapped(0)=2 swapped(1)=9 go(3)=18 swapped(0)=9 swapped(1)=2 swapped(NONE)=11");
    told("silk 9 0;" + times(6, "cut 0 7")).run("swapped(NONE)=0 swapped(0)=7 swapped(5)=7 swapped(6)=UNKNOWN");
    // On one day they go by their numbers, whatever days are dealt.
    told("plain 20 0;plain 9 0;over 1 0;cut 1 4;cut 0 4").run("doom(0)=21 swapped(NONE)=21 swapped(0)=4 swapped(1)=4");
    told("endless 9 0;cut 0 99;cut 0 0").run("swapped(NONE)=0 swapped(0)=0 swapped(1)=99 go(1)=0 swapped(0)=99 swapped(1)=0 go(99)=0 swapped(0)=99 swapped(1)=0");
  }

  private static void tails() {
    says("Terms", "TAILS: each THREAD that was CUT, and is not ENDLESS, has a TAIL of its LENGTH less the DAY on which it was CUT; a TAIL can be given to one WHOLE THREAD of its COLOUR, not ENDLESS, to each one at most: the most DAYS together; to whom each is given in the first such row (by THREADS, none ahead of all).");
    fresh().run("tails(NONE)=0");
    told("plain 9 0").run("tails(NONE)=0 tails(0)=NONE cut(0)=1 tails(NONE)=0 tails(0)=NONE");
    told("brave 9 0;plain 9 0").run("go(8)=0 cut(0)=1 tails(NONE)=1 tails(0)=1 tails(1)=NONE go(1)=0 tails(NONE)=0 tails(0)=NONE");
    told("brave 60 0;silk 60 0").run("cut(0)=1 tails(NONE)=60 tails(0)=1 go(59)=0 tails(NONE)=60 go(1)=0 tails(NONE)=0");
    told("plain 9 0;plain 9 1;endless 9 0").run("cut(0)=1 tails(NONE)=0 tails(0)=NONE dye(1,0)=1 tails(NONE)=9 tails(0)=1");
    told("plain 9 0;endless 60 0;plain 9 0;knot 0 1").run("cut(0)=2 tails(NONE)=9 tails(0)=2 tails(1)=NONE");
    told("plain 3 0;plain 9 0").run("go(3)=0 thread(0,3)=2 tails(NONE)=0 tails(0)=NONE");
    // One that is whole and three tails: the longest; of like ones the last, since none is ahead.
    told("plain 7 0;plain 9 0;plain 8 0;plain 9 0").run("cut(0)=1 cut(1)=1 cut(2)=1 tails(NONE)=9 tails(0)=NONE tails(1)=3 tails(2)=NONE");
    told("plain 9 0;plain 9 0;plain 9 0;plain 9 0").run("cut(0)=1 cut(1)=1 cut(2)=1 tails(NONE)=9 tails(0)=NONE tails(1)=NONE tails(2)=3");
    told("plain 9 0;plain 9 0;plain 9 0;plain 9 0").run("cut(0)=1 cut(3)=1 tails(NONE)=18 tails(0)=1 tails(3)=2");
    told(times(8, "plain 9 0")).run("cut(4)=1 cut(5)=1 cut(6)=1 cut(7)=1 tails(NONE)=36 tails(4)=0 tails(5)=1 tails(6)=2 tails(7)=3 cut(3)=1 tails(NONE)=27 tails(3)=NONE tails(4)=NONE tails(5)=0 tails(6)=1 tails(7)=2");
  }

  private static void given() {
    says("Terms", "GIVEN: whether n DAYS (1 .. 99) more can be had by one WHOLE THREAD from other WHOLE ones, not ENDLESS, so that each of these has m YEARS left at least (0 .. 99; of a BRAVE one one DAY is two YEARS): who of these can give most, of several the least; none: it can not be.");
    told("plain 9 0").run("given(0,1,0)=NONE given(0,0,0)=OUTSIDE given(0,99,0)=NONE given(0,100,0)=OUTSIDE given(0,1,99)=NONE given(0,1,100)=OUTSIDE given(0,1,-1)=OUTSIDE");
    told("plain 9 0;plain 9 0").run("given(0,1,0)=1 given(0,9,0)=1 given(0,10,0)=NONE given(0,1,8)=1 given(0,1,9)=NONE given(0,2,8)=NONE given(0,1,10)=NONE go(8)=0 given(0,1,0)=1 given(0,2,0)=NONE given(0,1,1)=NONE");
    told("plain 1 0;plain 60 0;plain 39 0").run("given(0,99,0)=1 given(0,99,1)=NONE");
    told("plain 1 0;plain 60 0;plain 38 0").run("given(0,98,0)=1 given(0,99,0)=NONE");
    told("plain 1 0;brave 60 0").run("given(0,60,0)=1 given(0,61,0)=NONE given(0,10,99)=1 given(0,11,99)=NONE given(0,11,98)=1 given(0,12,98)=NONE given(0,59,1)=1 given(0,60,1)=NONE given(0,59,2)=1");
    told("plain 9 0;plain 8 0;plain 8 0;brave 4 0;endless 60 0").run("given(0,20,0)=1 given(0,21,0)=NONE given(4,29,0)=0 given(4,30,0)=NONE given(3,1,8)=0 given(0,1,8)=NONE given(0,1,7)=1 given(0,2,7)=1 given(0,3,7)=NONE");
    // Those that are short already give nothing, and take nothing off what others give.
    told("plain 9 0;plain 3 0;brave 1 0;plain 9 0").run("given(0,4,5)=3 given(0,5,5)=NONE given(0,7,2)=3 given(0,8,2)=3 given(0,9,2)=NONE given(1,8,5)=0 given(1,9,5)=NONE");
    told("plain 1 0;silk 9 0").run("given(0,9,0)=1 given(0,10,0)=NONE given(0,8,1)=1 given(0,9,1)=NONE");
    told("plain 9 0;plain 2 0;plain 9 0").run("cut(2)=1 given(0,2,0)=1 given(2,1,0)=NOT go(2)=0 given(0,1,0)=NONE given(1,1,0)=NOT");
  }

  private static void cat() {
    says("Terms", "THE CAT cuts at any WHOLE THREAD, each alike: ODDS that one is CUT by it; MEAN of LOSS.");
    told("plain 9 0").run("cat(0,0)=1 cat(0,1)=1 mean(0)=9 mean(1)=1 cut(0)=1 cat(0,0)=NOT cat(0,1)=NOT mean(0)=NOT mean(1)=NOT");
    told("endless 9 0").run("cat(0,0)=0 cat(0,1)=1 mean(0)=0 mean(1)=1");
    told(times(8, "plain 9 0"), "over 1 0;knot 2 3;knot 3 4;knot 4 5;knot 5 6;knot 6 7").run("cat(0,0)=0 cat(0,1)=1 cat(1,0)=1 cat(1,1)=4 cat(7,0)=3 cat(7,1)=4 mean(0)=171 mean(1)=4");
    told("plain 9 0;plain 8 0;plain 5 0").run("mean(0)=22 mean(1)=3 cat(2,0)=1 cat(2,1)=3 cut(2)=1 cat(2,0)=0 cat(2,1)=1 mean(0)=17 mean(1)=2");
    told("plain 9 0;plain 2 0;endless 9 0;over 2 1").run("cat(1,0)=0 go(2)=0 cat(0,0)=1 cat(0,1)=2 cat(1,0)=0 cat(1,1)=1 mean(0)=7 mean(1)=2");
  }

  private static void whoseAndFourth() {
    says("Terms", "WHOSE: THREADS a CUT at which would fall on just a told set, by bits.");
    fresh().run("whose(0)=0 whose(1)=UNKNOWN");
    told("plain 9 0;plain 9 0;plain 9 0;over 1 0;knot 1 2").run("whose(6)=7 whose(2)=0 whose(4)=0 whose(7)=0 whose(1)=0 whose(0)=0 whose(8)=UNKNOWN whose(9)=UNKNOWN");
    told("plain 9 0;endless 9 0;plain 2 0;plain 9 0").run("whose(0)=2 whose(2)=0 whose(4)=4 go(2)=0 whose(0)=6 whose(4)=0 cut(3)=1 whose(0)=14 whose(1)=1");
    told(times(8, "plain 9 0"), "over 7 6").run("whose(128)=192 whose(64)=0 whose(255)=0 whose(256)=UNKNOWN whose(384)=UNKNOWN whose(MIN)=UNKNOWN whose(MAX)=UNKNOWN whose(-1)=UNKNOWN");
    says("Terms", "THE FOURTH: the WHOLE THREAD a CUT at which falls on some with least LOSS; of several the least; none; how much.");
    fresh().run("fourth(0)=NONE fourth(1)=NONE");
    told("endless 9 0;endless 9 0;plain 9 0;over 0 2").run("fourth(0)=NONE fourth(1)=NONE lift(0)=1 fourth(0)=2 fourth(1)=9 cut(2)=1 fourth(0)=NONE fourth(1)=NONE");
    told("brave 5 0;plain 9 0;plain 9 0").run("fourth(0)=1 fourth(1)=9 go(1)=0 fourth(0)=0 fourth(1)=8 go(4)=0 fourth(0)=1 fourth(1)=4");
    told("plain 9 0;silk 9 0;plain 1 0").run("fourth(0)=1 fourth(1)=0 cut(1)=1 fourth(0)=2 fourth(1)=1 go(1)=0 fourth(0)=0 fourth(1)=8");
    told("plain 9 0;plain 3 0;over 1 0").run("fourth(0)=0 fourth(1)=3");
  }

  private static void refused() {
    says("Terms", "Refused, and nothing changes: UNKNOWN (no such THREAD, ORDER; one and itself, where two are asked; a set with such), OUTSIDE (another number is not as told), NOT (not now: as told), FULL: the first of these that fits.");
    told("plain 9 0;plain 9 0;cut 0 5").run("thread(2,9)=UNKNOWN order(1,9)=UNKNOWN put(1,1)=UNKNOWN knot(0,0,9)=UNKNOWN whose(4)=UNKNOWN dye(2,9)=UNKNOWN lifts(2,9)=UNKNOWN given(2,0,0)=UNKNOWN cat(2,9)=UNKNOWN")
        .run("cut(1)=1 knot(0,1,9)=OUTSIDE dye(1,9)=OUTSIDE lifts(1,9)=OUTSIDE given(1,0,0)=OUTSIDE put(1,1)=UNKNOWN put(2,1)=UNKNOWN knot(1,1,1)=UNKNOWN go(100)=OUTSIDE")
        .run("knot(0,1,1)=NOT dye(1,0)=NOT put(0,1)=NOT lift(1)=NOT cut(1)=NOT count(7)=1 count(3)=1 count(5)=0 count(6)=0 undo()=0 count(3)=3");
    told("plain 9 0").run("all(10,go(99))=0 go(9)=0 go(0)=OUTSIDE go(100)=OUTSIDE go(1)=FULL cat(0,2)=OUTSIDE cat(1,0)=UNKNOWN cat(0,0)=NOT mean(2)=OUTSIDE mean(0)=NOT count(2)=999 count(7)=8");
    says("Terms", "Parts are told in lowest terms: above (part 0), below (1).");
    told("plain 9 0;plain 9 0;plain 9 0;plain 9 0;plain 9 0;plain 9 0;over 1 0;over 1 2;over 1 3").run("cat(1,0)=2 cat(1,1)=3 cat(0,0)=0 cat(0,1)=1 cat(5,0)=1 cat(5,1)=6 mean(0)=9 mean(1)=1 cat(1,2)=OUTSIDE cat(1,-1)=OUTSIDE mean(2)=OUTSIDE mean(-1)=OUTSIDE");
  }

  // ---- the promises

  private static void p01to05() {
    says("Promise 1", "No THREADS.");
    fresh().run("count(0)=0 count(1)=0 count(2)=0 count(3)=0 count(4)=0 count(5)=0 count(6)=0 count(7)=0 count(8)=0 thread(0,0)=UNKNOWN top(0)=UNKNOWN undo()=NOT back(0)=NOT back(1)=NOT");
    says("Promise 2", "A letter (its number, 0 .. 255) more of THE TEXT: how many it has. OUTSIDE; FULL.");
    fresh().run("write(-1)=OUTSIDE write(256)=OUTSIDE write(MIN)=OUTSIDE write(MAX)=OUTSIDE count(8)=0 write(0)=1 write(255)=2 all(157,write(32))=159 write(0)=160 write(0)=FULL write(255)=FULL write(256)=OUTSIDE write(-1)=OUTSIDE count(8)=160 fault()=0");
    says("Promise 3", "THE TEXT is empty: how many letters it had.");
    fresh().run("erase()=0 write(99)=1 erase()=1 erase()=0 count(8)=0 all(160,write(32))=160 write(32)=FULL erase()=160 fault()=0 write(32)=1 fault()=1");
    says("Promise 4", "The place of the FAULT (the letter with which the TOKEN begins, or the length); NONE.");
    fresh().run("fault()=0 spell(calm;)=5 fault()=5 fault()=5 spell(calm)=9 fault()=NONE fault()=NONE spell(s)=10 fault()=5 spell(;;)=12 fault()=5 count(8)=12 count(0)=0");
    says("Promise 5", "THE TEXT's CLAUSES are done, and it is empty then: how many there were. NOT: it has a FAULT.");
    fresh().run("loom()=NOT spell(plain 9 0;)=10 loom()=NOT count(0)=0 count(8)=10 spell(calm)=14 loom()=2 count(8)=0 count(0)=1 loom()=NOT count(0)=1 erase()=0");
    fresh().run("tell(" + times(14, "loom") + ")=14 count(8)=0 tell(loom)=1");
  }

  private static void p06to09() {
    says("Promise 6", "Of a THREAD: KIND (what 0), LENGTH (1), COLOUR (2), 0 WHOLE, 1 CUT, 2 RUN OUT (3), those OVER it, by bits (4), KNOTTED to it, by bits (5), the DAY on which it was CUT (6; NONE). UNKNOWN; OUTSIDE.");
    told(times(6, "plain 9 0") + ";brave 8 2;silk 60 3", "over 7 6;over 0 6;knot 6 7;knot 6 0").run("thread(6,0)=1 thread(6,1)=8 thread(6,2)=2 thread(6,3)=0 thread(6,4)=129 thread(6,5)=129 thread(6,6)=NONE thread(7,0)=2 thread(7,1)=60 thread(7,2)=3 thread(7,4)=0 thread(7,5)=64")
        .run("thread(0,-1)=OUTSIDE thread(0,7)=OUTSIDE thread(0,MIN)=OUTSIDE thread(0,MAX)=OUTSIDE thread(8,0)=UNKNOWN thread(-1,0)=UNKNOWN thread(8,7)=UNKNOWN thread(MIN,-1)=UNKNOWN thread(MAX,0)=UNKNOWN thread(7,6)=NONE")
        .run("cut(0)=3 thread(0,3)=1 thread(0,6)=0 thread(6,4)=129 thread(6,5)=129 go(9)=0 thread(1,3)=2 thread(1,6)=NONE thread(6,6)=0");
    told("plain 60 0").run("go(59)=0 cut(0)=1 thread(0,6)=59 go(99)=0 thread(0,6)=59 thread(0,3)=1");
    says("Promise 7", "A THREAD taken as a KIND (0 .. 4, as they are over one another): its YEARS (0 of one that is not WHOLE). UNKNOWN; OUTSIDE; NOT: it is none such.");
    told("plain 9 0;brave 2 0;endless 9 0").run("as(0,-1)=OUTSIDE as(0,5)=OUTSIDE as(0,MAX)=OUTSIDE as(0,0)=9 as(0,4)=NOT as(2,4)=0 as(2,1)=NOT as(3,0)=UNKNOWN as(3,5)=UNKNOWN as(-1,-1)=UNKNOWN as(2,5)=OUTSIDE")
        .run("as(1,2)=4 go(2)=0 as(1,2)=0 as(1,1)=0 as(1,0)=0 as(1,3)=NOT as(1,5)=OUTSIDE cut(0)=1 as(0,1)=0 as(0,2)=NOT");
    says("Promise 8", "Of an ORDER: its THREAD (what 0), DAY (1). UNKNOWN; OUTSIDE.");
    fresh().run("order(0,0)=UNKNOWN order(0,2)=UNKNOWN order(-1,0)=UNKNOWN");
    told(times(8, "plain 9 0"), "cut 7 0;" + times(4, "cut 1 1") + ";cut 0 99").run("order(0,0)=7 order(0,1)=0 order(5,0)=0 order(5,1)=99 order(6,0)=UNKNOWN order(6,2)=UNKNOWN order(-1,-1)=UNKNOWN order(MAX,0)=UNKNOWN order(MIN,0)=UNKNOWN order(5,2)=OUTSIDE order(5,-1)=OUTSIDE order(0,MIN)=OUTSIDE go(99)=17 order(0,1)=0");
    says("Promise 9", "TOP. UNKNOWN; NOT: it is not WHOLE.");
    fresh().run("top(0)=UNKNOWN top(-1)=UNKNOWN");
    told("plain 9 0;plain 2 0;plain 9 0;over 2 1").run("top(0)=0 top(1)=2 top(2)=2 top(3)=UNKNOWN top(-1)=UNKNOWN top(MIN)=UNKNOWN top(MAX)=UNKNOWN cut(0)=1 top(0)=NOT go(2)=0 top(1)=NOT top(2)=2");
  }

  private static void p10to15() {
    says("Promise 10", "A CUT at a THREAD now: on how many it falls. UNKNOWN; NOT: it is not WHOLE.");
    fresh().run("cut(0)=UNKNOWN cut(-1)=UNKNOWN count(7)=0");
    told("plain 9 0;endless 9 0;plain 2 0;plain 9 0;over 3 0").run("cut(1)=0 count(7)=1 cut(0)=1 thread(3,3)=1 cut(0)=1 cut(0)=NOT cut(3)=NOT cut(4)=UNKNOWN cut(MAX)=UNKNOWN cut(MIN)=UNKNOWN count(7)=3 go(2)=0 cut(2)=NOT cut(1)=0 count(7)=5");
    told(times(8, "plain 9 0"), "knot 0 1;knot 1 2;knot 2 3;knot 3 4;knot 4 5;knot 5 6;knot 6 7").run("cut(7)=8 cut(8)=UNKNOWN cut(7)=NOT cut(0)=NOT");
    says("Promise 11", "One is LAID OVER another: how many are OVER that. UNKNOWN; NOT: one is not WHOLE, it is OVER it, a ring would come.");
    told("plain 9 0").run("put(0,0)=UNKNOWN put(0,1)=UNKNOWN put(1,0)=UNKNOWN put(-1,0)=UNKNOWN put(0,-1)=UNKNOWN put(MAX,MIN)=UNKNOWN count(7)=0");
    told("plain 9 0;plain 9 0;plain 2 0;plain 9 0").run("put(0,1)=1 put(0,1)=NOT put(1,0)=NOT put(2,1)=2 put(3,1)=3 put(1,3)=NOT count(7)=3 go(2)=0 put(2,0)=NOT put(0,2)=NOT put(2,2)=UNKNOWN lift(0)=1 put(0,1)=3 thread(1,4)=13 count(7)=6");
    // A ring through one that is cut is a ring, too.
    told("plain 9 0;plain 9 0;plain 9 0").run("put(1,0)=1 cut(1)=1 count(3)=5 put(2,0)=2 put(0,2)=NOT");
    told("plain 9 0;plain 2 0;plain 9 0;over 1 0;over 2 1").run("go(2)=0 put(0,2)=NOT put(2,0)=2");
    says("Promise 12", "One is LIFTED: off how many. UNKNOWN; NOT: it is not WHOLE, OVER none.");
    told("plain 9 0;plain 9 0;plain 2 0;over 1 0;over 1 2;over 2 0").run("lift(0)=NOT lift(3)=UNKNOWN lift(-1)=UNKNOWN lift(MIN)=UNKNOWN count(7)=0 lift(1)=2 lift(1)=NOT count(7)=1 thread(0,4)=4 go(2)=0 lift(2)=NOT count(6)=1");
    told(times(8, "plain 9 0"), times(1, "over 7 0;over 7 1;over 7 2;over 7 3;over 7 4;over 7 5;over 7 6")).run("lift(7)=7 count(6)=0 lift(7)=NOT lift(8)=UNKNOWN");
    says("Promise 13", "Two are KNOTTED (1), or no more (0): whether they were. UNKNOWN; OUTSIDE; NOT: one is not WHOLE.");
    told("plain 9 0;plain 9 0;plain 2 0").run("knot(0,1,0)=0 knot(0,1,1)=0 knot(0,1,1)=1 knot(1,0,1)=1 count(5)=1 knot(1,0,0)=1 knot(1,0,0)=0 count(5)=0 count(7)=6 knot(0,1,2)=OUTSIDE knot(0,1,-1)=OUTSIDE knot(0,1,MAX)=OUTSIDE")
        .run("knot(0,0,1)=UNKNOWN knot(0,3,1)=UNKNOWN knot(3,0,1)=UNKNOWN knot(-1,0,1)=UNKNOWN knot(0,-1,2)=UNKNOWN count(7)=6 knot(1,2,1)=0 go(2)=0 knot(1,2,0)=NOT knot(2,1,1)=NOT knot(2,1,2)=OUTSIDE knot(2,2,2)=UNKNOWN count(5)=1");
    says("Promise 14", "One is DYED: its COLOUR ahead. UNKNOWN; OUTSIDE; NOT: it is not WHOLE.");
    told("plain 9 1;plain 2 2").run("dye(0,0)=1 dye(0,3)=0 dye(0,3)=3 dye(0,4)=OUTSIDE dye(0,-1)=OUTSIDE dye(0,MIN)=OUTSIDE dye(2,0)=UNKNOWN dye(2,4)=UNKNOWN dye(-1,0)=UNKNOWN thread(0,2)=3 count(7)=3 go(2)=0 dye(1,0)=NOT dye(1,4)=OUTSIDE thread(1,2)=2");
    says("Promise 15", "n DAYS (1 .. 99) end: LOSS by their ORDERS. OUTSIDE; FULL: above DAY 999.");
    fresh().run("go(0)=OUTSIDE go(-1)=OUTSIDE go(100)=OUTSIDE go(MIN)=OUTSIDE go(MAX)=OUTSIDE count(2)=0 go(1)=0 count(2)=1 go(99)=0 count(2)=100 all(8,go(99))=0 count(2)=892 go(99)=0 go(9)=FULL go(8)=0 count(2)=999 go(1)=FULL go(99)=FULL go(100)=OUTSIDE go(0)=OUTSIDE count(2)=999 undo()=7 count(2)=991");
    told("plain 60 0;plain 60 0;plain 60 0;cut 0 0;cut 1 1;cut 2 58").run("go(1)=60 go(1)=59 go(56)=0 go(1)=2 count(4)=121");
    told("plain 60 0;plain 60 0;plain 60 0;cut 0 0;cut 1 1;cut 2 58").run("go(99)=121 count(4)=121 go(99)=0");
    told("plain 60 0;plain 60 0;cut 1 0").run("cut(0)=1 count(4)=60 go(1)=60 count(4)=120");
  }

  private static void p16to18() {
    says("Promise 16", "The latest cut(), put(), lift(), knot(), dye(), go() is undone (the last 8 can be): how many can be undone yet. NOT: none.");
    fresh().run("undo()=NOT go(1)=0 count(7)=1 undo()=0 count(2)=0 undo()=NOT");
    told("plain 9 0;plain 9 1;cut 1 2").run("cut(0)=1 undo()=0 count(3)=3 count(4)=0 thread(0,6)=NONE put(0,1)=1 undo()=0 count(6)=0 put(0,1)=1 lift(0)=1 undo()=1 thread(1,4)=1 undo()=0 knot(0,1,1)=0 undo()=0 count(5)=0 thread(0,5)=0 thread(1,5)=0 dye(0,3)=0 undo()=0 thread(0,2)=0")
        .run("go(3)=7 count(3)=1 undo()=0 count(2)=0 count(3)=3 count(4)=0 thread(1,6)=NONE undo()=NOT");
    told("plain 60 0").run("all(7,go(1))=0 count(7)=7 go(1)=0 count(7)=8 go(1)=0 count(7)=8 count(2)=9 undo()=7 undo()=6 undo()=5 undo()=4 undo()=3 undo()=2 undo()=1 count(2)=2 undo()=0 count(2)=1 undo()=NOT count(2)=1 go(1)=0 undo()=0 count(2)=1");
    told("plain 60 0").run("all(20,dye(0,1))=1 dye(0,2)=1 count(7)=8 undo()=7 thread(0,2)=1 dye(0,3)=1 dye(0,0)=3 count(7)=8 undo()=7 thread(0,2)=3 undo()=6 thread(0,2)=1");
    told("plain 9 0;plain 9 0").run("cut(0)=1 undo()=0 tails(NONE)=0 go(9)=0 thread(0,3)=2 undo()=0 thread(0,3)=0");
    // What was refused, told, kept or asked is not among them.
    told("plain 9 0;plain 9 0").run("go(1)=0 cut(2)=UNKNOWN put(0,0)=UNKNOWN lift(0)=NOT knot(0,1,2)=OUTSIDE dye(0,4)=OUTSIDE go(0)=OUTSIDE keep(0)=1 takes(0)=1 doom(0)=0 spell(x)=1 loom()=NOT count(7)=1 undo()=0 count(2)=0 count(8)=1");
    says("Promise 17", "All as it is (but what can be undone) is kept (k 0, 1): the DAY. UNKNOWN: no such k.");
    fresh().run("keep(0)=0 keep(1)=0 keep(2)=UNKNOWN keep(-1)=UNKNOWN keep(MIN)=UNKNOWN keep(MAX)=UNKNOWN");
    told("plain 9 0").run("all(10,go(99))=0 go(9)=0 keep(0)=999 undo()=7 keep(1)=990 count(7)=7 back(0)=999 count(7)=0 back(1)=990 keep(1)=990 go(1)=0 keep(1)=991 back(1)=991 back(0)=999");
    says("Promise 18", "It is as it was kept, nothing can be undone: the DAY. UNKNOWN; NOT: nothing was kept since the last text.");
    fresh().run("back(0)=NOT back(1)=NOT back(2)=UNKNOWN back(-1)=UNKNOWN back(MAX)=UNKNOWN keep(1)=0 back(0)=NOT back(1)=0 back(2)=UNKNOWN");
    told("plain 9 0;plain 9 1;plain 2 2;over 1 0;knot 0 1").run("go(2)=0 dye(0,3)=0 keep(0)=2 lift(1)=1 put(0,1)=1 knot(0,1,0)=1 dye(0,2)=3 cut(1)=1 go(7)=0 count(7)=8 back(0)=2 count(7)=0 undo()=NOT")
        .run("thread(0,2)=3 thread(0,3)=0 thread(0,4)=2 thread(1,4)=0 thread(0,5)=2 thread(1,5)=1 thread(1,6)=NONE thread(2,3)=2 count(2)=2 count(3)=3 count(4)=0 cut(0)=2 back(0)=2 count(3)=3")
        .run("spell(calm)=4 back(0)=2 loom()=1 back(0)=NOT keep(1)=0 back(0)=NOT back(1)=0 spell(calm;)=5 loom()=NOT back(1)=0");
    told("plain 9 0;plain 9 0").run("keep(0)=0 cut(0)=1 keep(1)=0 tails(NONE)=9 back(0)=0 tails(NONE)=0 go(9)=0 thread(0,3)=2 back(1)=0 thread(0,3)=1 tails(NONE)=9 go(9)=0 thread(0,3)=1");
  }

  private static void p19to23() {
    says("Promise 19", "TAKES, by bits. UNKNOWN.");
    fresh().run("takes(0)=UNKNOWN takes(-1)=UNKNOWN");
    told(times(8, "plain 9 0")).run("takes(0)=1 takes(7)=128 takes(8)=UNKNOWN takes(-1)=UNKNOWN takes(MIN)=UNKNOWN takes(MAX)=UNKNOWN cut(7)=1 takes(7)=0 go(9)=0 takes(0)=0");
    says("Promise 20", "LOSS by a CUT at one. UNKNOWN.");
    fresh().run("loss(0)=UNKNOWN loss(-1)=UNKNOWN");
    told("plain 9 0;silk 9 0;endless 9 0").run("loss(0)=9 loss(1)=0 loss(2)=0 loss(3)=UNKNOWN loss(-1)=UNKNOWN loss(MIN)=UNKNOWN loss(MAX)=UNKNOWN go(8)=0 loss(0)=1 go(1)=0 loss(0)=0");
    says("Promise 21", "LIFTS: how many (what 0), the set (1). UNKNOWN; OUTSIDE; NOT: it is not WHOLE.");
    fresh().run("lifts(0,0)=UNKNOWN lifts(0,2)=UNKNOWN");
    told("plain 9 0;plain 2 0;plain 9 0;over 2 1;over 2 0").run("lifts(0,0)=1 lifts(0,1)=4 lifts(0,2)=OUTSIDE lifts(0,-1)=OUTSIDE lifts(0,MAX)=OUTSIDE lifts(3,0)=UNKNOWN lifts(3,2)=UNKNOWN lifts(-1,0)=UNKNOWN go(2)=0 lifts(1,0)=NOT lifts(1,1)=NOT lifts(1,2)=OUTSIDE cut(2)=1 lifts(2,0)=NOT lifts(0,0)=0");
    says("Promise 22", "DOOM: LOSS (what 0), who, by bits (1). OUTSIDE.");
    fresh().run("doom(0)=0 doom(1)=0 doom(2)=OUTSIDE doom(-1)=OUTSIDE doom(MIN)=OUTSIDE doom(MAX)=OUTSIDE");
    told(times(8, "brave 60 0"), "cut 7 0;cut 6 1;cut 5 2;cut 4 3;cut 3 58;cut 2 59").run("doom(0)=474 doom(1)=252 go(99)=474 doom(0)=0 doom(1)=0");
    says("Promise 23", "SWAPPED: LOSS (order NONE), the DAY of an ORDER. UNKNOWN.");
    fresh().run("swapped(NONE)=0 swapped(0)=UNKNOWN swapped(-2)=UNKNOWN");
    told("silk 9 0;cut 0 5;cut 0 4;cut 0 3;cut 0 2;cut 0 1;cut 0 0").run("swapped(NONE)=0 swapped(0)=0 swapped(1)=1 swapped(2)=2 swapped(3)=3 swapped(4)=4 swapped(5)=5 swapped(6)=UNKNOWN swapped(-2)=UNKNOWN swapped(MIN)=UNKNOWN swapped(MAX)=UNKNOWN order(0,1)=5");
  }

  private static void p24to27() {
    says("Promise 24", "TAILS: DAYS (thread NONE), to whom that of a THREAD is given; NONE: to nobody, it has none. UNKNOWN.");
    fresh().run("tails(NONE)=0 tails(0)=UNKNOWN tails(-2)=UNKNOWN");
    told("plain 9 0;plain 9 0;plain 9 1").run("tails(0)=NONE cut(1)=1 cut(2)=1 tails(NONE)=9 tails(0)=NONE tails(1)=0 tails(2)=NONE tails(3)=UNKNOWN tails(-2)=UNKNOWN tails(MIN)=UNKNOWN tails(MAX)=UNKNOWN");
    says("Promise 25", "GIVEN; NONE. UNKNOWN; OUTSIDE; NOT: it is not WHOLE.");
    fresh().run("given(0,1,0)=UNKNOWN given(0,0,0)=UNKNOWN");
    told("plain 9 0;plain 9 0;plain 2 0").run("given(0,1,0)=1 given(0,11,0)=1 given(0,12,0)=NONE given(3,1,0)=UNKNOWN given(-1,0,-1)=UNKNOWN given(0,0,0)=OUTSIDE given(0,100,0)=OUTSIDE given(0,1,-1)=OUTSIDE given(0,1,100)=OUTSIDE given(0,MIN,0)=OUTSIDE given(0,1,MAX)=OUTSIDE given(0,99,99)=NONE")
        .run("go(2)=0 given(2,1,0)=NOT given(2,0,0)=OUTSIDE given(2,1,100)=OUTSIDE given(2,99,99)=NOT given(0,7,0)=1 given(0,8,0)=NONE");
    says("Promise 26", "ODDS by THE CAT. UNKNOWN; OUTSIDE; NOT: none is WHOLE.");
    fresh().run("cat(0,0)=UNKNOWN cat(0,2)=UNKNOWN");
    told("plain 9 0;plain 9 0").run("cat(0,0)=1 cat(0,1)=2 cat(0,2)=OUTSIDE cat(0,-1)=OUTSIDE cat(2,0)=UNKNOWN cat(-1,2)=UNKNOWN cut(0)=1 cat(0,0)=0 cat(0,1)=1 cat(1,0)=1 cat(1,1)=1 cut(1)=1 cat(1,0)=NOT cat(1,1)=NOT cat(1,2)=OUTSIDE cat(2,2)=UNKNOWN");
    says("Promise 27", "MEAN by THE CAT. OUTSIDE; NOT: none is WHOLE.");
    fresh().run("mean(0)=NOT mean(1)=NOT mean(2)=OUTSIDE mean(-1)=OUTSIDE");
    told("plain 9 0;silk 2 0").run("mean(0)=9 mean(1)=2 mean(2)=OUTSIDE mean(-1)=OUTSIDE mean(MIN)=OUTSIDE go(8)=0 mean(0)=1 mean(1)=1 go(1)=0 mean(0)=NOT mean(1)=NOT mean(2)=OUTSIDE");
  }

  private static void p28to30() {
    says("Promise 28", "WHOSE, by bits. UNKNOWN.");
    fresh().run("whose(0)=0 whose(1)=UNKNOWN whose(-1)=UNKNOWN");
    told("plain 9 0;plain 9 0").run("whose(0)=0 whose(1)=1 whose(2)=2 whose(3)=0 whose(4)=UNKNOWN whose(5)=UNKNOWN whose(-1)=UNKNOWN whose(MIN)=UNKNOWN knot(0,1,1)=0 whose(3)=3 whose(1)=0");
    says("Promise 29", "THE FOURTH: the THREAD (what 0), LOSS (1); NONE. OUTSIDE.");
    fresh().run("fourth(0)=NONE fourth(1)=NONE fourth(2)=OUTSIDE fourth(-1)=OUTSIDE");
    told("plain 9 0;plain 8 0").run("fourth(0)=1 fourth(1)=8 fourth(2)=OUTSIDE fourth(-1)=OUTSIDE fourth(MAX)=OUTSIDE cut(1)=1 fourth(0)=0 fourth(1)=9 cut(0)=1 fourth(0)=NONE fourth(1)=NONE");
    says("Promise 30", "0 THREADS, 1 ORDERS, 2 the DAY, 3 those WHOLE, by bits, 4 LOSS so far, 5 KNOTS (pairs), 6 pairs of one OVER another, 7 how many can be undone, 8 letters of THE TEXT. OUTSIDE.");
    fresh().run("count(-1)=OUTSIDE count(9)=OUTSIDE count(MIN)=OUTSIDE count(MAX)=OUTSIDE");
    told(times(8, "plain 9 0"), "over 1 0;over 2 0;over 2 1;knot 0 1;knot 1 2;knot 3 4;knot 4 3;cut 7 0;cut 6 99").run("count(0)=8 count(1)=2 count(2)=0 count(3)=255 count(4)=0 count(5)=3 count(6)=3 count(7)=0 count(8)=0")
        .run("go(1)=9 count(2)=1 count(3)=127 count(4)=9 count(7)=1 spell(loo)=3 count(8)=3 cut(3)=2 count(4)=25 count(5)=3 count(3)=103 undo()=1 count(4)=9 count(3)=127");
    StringBuilder knots = new StringBuilder();
    for (int i = 0; i < 8; i++) for (int j = i + 1; j < 8; j++) knots.append("knot(" + i + "," + j + ",1)=0 put(" + i + "," + j + ")=" + (i + 1) + " ");
    told(times(8, "plain 9 0")).run(knots.toString()).run("count(5)=28 count(6)=28 top(7)=0 takes(7)=255 count(7)=8");
  }

  // ---- what was quoted

  /** Every quote stands in its section, and no word of the terms and promises stands outside all quotes. */
  private static void documentIsQuoted() throws Exception {
    Path doc = Path.of("../shared/DOC.md");
    if (!Files.exists(doc)) {
      System.out.println("no " + doc + ": quotes are not compared with it");
      return;
    }
    for (String part : Files.readString(doc).split("\n## ")) {
      String name = part.split("[:\n]")[0].trim();
      Map<String, Integer> quotes = QUOTED.getOrDefault(name, Map.of());
      String text = part.substring(part.indexOf('\n') + 1).replace("```text", " ").replace("```", " ").replaceAll("\\s+", " ");
      section = name;
      for (Map.Entry<String, Integer> quote : quotes.entrySet()) {
        sentence = quote.getKey();
        if (!text.contains(sentence)) fail("is not in the document");
        if (quote.getValue() == 0) fail("has no call");
      }
      if (name.equals("Terms") || name.startsWith("Promise ")) nothingIsLeft(text, quotes);
    }
  }

  private static void nothingIsLeft(String text, Map<String, Integer> quotes) {
    String left = text.replaceAll("Ahead of the calls .*? the interface says: ---- [a-z ]*\\.", "|").replaceAll("======== \\d", "|");
    left = left.replaceAll("`(public )?(int )?\\w+\\([^`]*\\)`:", "|");
    List<String> longest = new ArrayList<>(quotes.keySet());
    longest.sort((a, b) -> b.length() - a.length());
    for (String quote : longest) left = left.replace(quote, "|");
    for (String piece : left.split("\\|")) {
      sentence = piece.trim();
      if (piece.matches(".*\\w.*")) fail("has no test here");
    }
  }

  private static void tellWhatRan() {
    int quotes = 0;
    int calls = 0;
    for (Map.Entry<String, Map<String, Integer>> part : QUOTED.entrySet()) {
      int here = 0;
      for (int n : part.getValue().values()) here += n;
      System.out.println(part.getKey() + ": " + part.getValue().size() + " quoted, " + here + " answers");
      quotes += part.getValue().size();
      calls += here;
    }
    System.out.println(quotes + " quotes, " + calls + " answers, " + wrong + " not as due");
  }
}
