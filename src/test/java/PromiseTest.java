/** Each promise by itself: ordinary calls, the edges that the document names, wrong inputs. */
public final class PromiseTest {
  private static final int NONE = -1, UNKNOWN = -2, OUTSIDE = -3, NOT = -4, FULL = -5;
  private static int wrong = 0;
  private static int calls = 0;

  private static void due(String call, int got, int want) {
    calls++;
    if (got != want) {
      wrong++;
      System.out.println(call + " answered " + got + ", due is " + want);
    }
  }

  private static void spell(WhoseThread x, String text) {
    for (int i = 0; i < text.length(); i++) x.write(text.charAt(i));
  }

  /** A new object that was told a text, which must have no fault. */
  private static WhoseThread told(String text) {
    WhoseThread x = new WhoseThread();
    tell(x, text);
    return x;
  }

  private static void tell(WhoseThread x, String text) {
    spell(x, text);
    due("fault() of '" + text + "'", x.fault(), NONE);
    due("loom() of '" + text + "'", x.loom(), text.split(";").length);
  }

  /** The fault of a text behind what an object was told; the text is erased again. */
  private static void faulty(WhoseThread x, String text, int want) {
    spell(x, text);
    due("fault() of '" + text + "'", x.fault(), want);
    if (want != NONE) {
      due("loom() of '" + text + "'", x.loom(), NOT);
      due("count(8) behind a refused loom()", x.count(8), text.length());
    }
    x.erase();
  }

  private static String times(String text, int n) {
    StringBuilder all = new StringBuilder();
    for (int i = 0; i < n; i++) all.append(i == 0 ? "" : ";").append(text);
    return all.toString();
  }

  private static final int[] WILD = {Integer.MIN_VALUE, -99, -3, -2, -1, 8, 9, 31, 32, 33, 1000, Integer.MAX_VALUE};

  public static void main(String[] args) {
    p01(); p02(); p03(); p04(); p04bounds(); p04words(); p04rings(); p04room(); p05(); p05goes();
    p06(); p07(); p08(); p09(); p10(); p10knots(); p11(); p12(); p13(); p14(); p15(); p15orders();
    p16(); p16eight(); p17(); p18(); p19(); p20(); p21(); p22(); p23(); p23ties(); p23sameDay(); p24(); p24ties();
    p25(); p26(); p27(); p28(); p29(); p30(); full(); constants();
    System.out.println(calls + " calls, " + wrong + " not as due");
    if (wrong != 0) System.exit(1);
  }

  private static void constants() {
    due("NONE", WhoseThread.NONE, NONE);
    due("UNKNOWN", WhoseThread.UNKNOWN, UNKNOWN);
    due("OUTSIDE", WhoseThread.OUTSIDE, OUTSIDE);
    due("NOT", WhoseThread.NOT, NOT);
    due("FULL", WhoseThread.FULL, FULL);
  }

  private static void p01() {
    WhoseThread x = new WhoseThread();
    for (int what = 0; what < 9; what++) due("new count(" + what + ")", x.count(what), 0);
    due("new undo()", x.undo(), NOT);
    due("new back(0)", x.back(0), NOT);
    due("new thread(0, 0)", x.thread(0, 0), UNKNOWN);
    due("new order(0, 0)", x.order(0, 0), UNKNOWN);
  }

  private static void p02() {
    WhoseThread x = new WhoseThread();
    due("write(-1)", x.write(-1), OUTSIDE);
    due("write(256)", x.write(256), OUTSIDE);
    due("write(MIN)", x.write(Integer.MIN_VALUE), OUTSIDE);
    due("write(0)", x.write(0), 1);
    due("write(255)", x.write(255), 2);
    for (int n = 3; n <= 160; n++) due("write(97)", x.write(97), n);
    due("write(97) as 161st", x.write(97), FULL);
    due("write(256) as 161st", x.write(256), OUTSIDE);
    due("count(8)", x.count(8), 160);
    due("fault() of 160", x.fault(), 0);
  }

  private static void p03() {
    WhoseThread x = new WhoseThread();
    due("erase() of none", x.erase(), 0);
    spell(x, "calm");
    due("erase() of four", x.erase(), 4);
    due("erase() again", x.erase(), 0);
    due("fault() of erased", x.fault(), 0);
    due("write behind erase()", x.write('c'), 1);
  }

  private static void p04() {
    WhoseThread x = told("plain 9 0;silk 9 0;endless 9 0");
    faulty(x, "", 0);
    faulty(x, "   ", 3);
    faulty(x, "calm", NONE);
    faulty(x, "  calm  ", NONE);
    faulty(x, "calm ; free;loom", NONE);
    faulty(x, "calm;", 5);
    faulty(x, "calm; ", 6);
    faulty(x, ";calm", 0);
    faulty(x, "calm;;calm", 5);
    faulty(x, "calm free", 5);
    faulty(x, "calm 1", 5);
    faulty(x, "calmfree", 0);
    faulty(x, "Calm", 0);
    faulty(x, "calM", 0);
    faulty(x, "calm;calmM", 9);
    faulty(x, "calm\t", 4);
    faulty(x, "calm.", 4);
    faulty(x, "calm;" + (char) 233, 5);
    faulty(x, "cal", 0);
    faulty(x, "calms", 0);
    faulty(x, "12", 0);
    faulty(x, "over0 1", NONE);
    faulty(x, "over01", 6);
    faulty(x, "over001", 4);
    faulty(x, "over 0 1;over 1 0", 16);
    faulty(x, "over 0", 6);
    faulty(x, "over 0 ", 7);
    faulty(x, "over", 4);
    faulty(x, "over a b", 5);
    faulty(x, "over 0;1", 6);
    faulty(x, "plain 1 -1", 8);
    faulty(x, "plain 1 1 1", 10);
    faulty(x, "plain1 1;brave2 2;silk3 3;endless4 0", NONE);
    faulty(x, "cut 2 99", NONE);
    faulty(x, "cut 3 99", 4);
    faulty(x, "knot 0 1;shears;over 9 9", 9);
  }

  private static void p04bounds() {
    WhoseThread x = told("plain 9 0");
    String[] kinds = {"plain", "brave", "silk", "endless"};
    for (String kind : kinds) {
      int at = kind.length() + 1;
      faulty(x, kind + " 0 0", at);
      faulty(x, kind + " 1 0", NONE);
      faulty(x, kind + " 60 3", NONE);
      faulty(x, kind + " 61 0", at);
      faulty(x, kind + " 001 0", at);
      faulty(x, kind + " 01 00", NONE);
      faulty(x, kind + " 9 4", at + 2);
      faulty(x, kind + " 9 000", at + 2);
      faulty(x, kind + " 9", at + 1);
    }
    faulty(x, "cut 0 0", NONE);
    faulty(x, "cut 0 99", NONE);
    faulty(x, "cut 0 100", 6);
    faulty(x, "cut 0 099", 6);
    faulty(x, "cut 1 0", 4);
    faulty(x, "cut 00 0", NONE);
    faulty(x, "cut 000 0", 4);
    faulty(x, "plain 1 1;cut 1 0", NONE);
    faulty(x, "loom;cut 0 0", 9);
    faulty(x, "loom;plain 1 1;cut 0 0;cut 1 0", 27);
  }

  private static void p04words() {
    WhoseThread x = told("plain 9 0;plain 9 0");
    String[] clauses = {"loom", "plain 1 1", "brave 1 1", "silk 1 1", "endless 1 1", "over 0 1", "knot 0 1", "cut 0 1", "calm", "free"};
    for (String clause : clauses) {
      faulty(x, clause, NONE);
      int end = clause.indexOf(' ') < 0 ? clause.length() : clause.indexOf(' ');
      for (int i = 0; i < end; i++) {
        faulty(x, clause.substring(0, i) + 'z' + clause.substring(i + 1), 0);
        faulty(x, clause.substring(0, i) + clause.substring(i + 1), 0);
      }
      faulty(x, "calm;a" + clause, 5);
      faulty(x, clause.substring(0, end) + 'z' + clause.substring(end), 0);
    }
  }

  private static void p04rings() {
    WhoseThread x = told("plain 9 0;plain 9 0;plain 9 0;over 1 0;over 2 1");
    faulty(x, "over 1 1", 7);
    faulty(x, "over 0 1", 7);
    faulty(x, "over 0 2", 7);
    faulty(x, "over 1 2", 7);
    faulty(x, "over 2 0", NONE);
    faulty(x, "over 1 0", NONE);
    faulty(x, "free;over 0 2", NONE);
    faulty(x, "free;over 0 2;over 2 0", 21);
    faulty(x, "knot 1 1", 7);
    faulty(x, "knot 1 3", 7);
    faulty(x, "knot 3 1", 5);
    faulty(x, "knot 1 0;knot 0 1", NONE);
    // Rings are of what texts told: what was laid or lifted since goes.
    due("lift(2)", x.lift(2), 1);
    due("lift(1)", x.lift(1), 1);
    due("put(0, 2)", x.put(0, 2), 1);
    faulty(x, "over 2 0", NONE);
    faulty(x, "over 0 2", 7);
  }

  private static void p04room() {
    WhoseThread x = new WhoseThread();
    faulty(x, times("silk 1 1", 8), NONE);
    faulty(x, times("silk 1 1", 9), 72);
    tell(x, times("silk 1 1", 8));
    faulty(x, "endless 1 1", 0);
    faulty(x, "calm;plain", 5);
    faulty(x, "loom;plain 1 1", NONE);
    faulty(x, times("cut 7 9", 6), NONE);
    faulty(x, times("cut 7 9", 7), 48);
    tell(x, times("cut 7 9", 6));
    faulty(x, "cut 0 0", 0);
    faulty(x, "calm;cut 0 0", NONE);
    faulty(x, times("calm", 14), NONE);
    faulty(x, times("calm", 15), 69);
    faulty(x, times("calm", 14) + ";", 69);
    faulty(x, times("calm", 14) + " x", 70);
  }

  private static void p05() {
    WhoseThread x = new WhoseThread();
    due("loom() of nothing", x.loom(), NOT);
    tell(x, "plain 9 1;brave 8 2");
    due("count(8)", x.count(8), 0);
    tell(x, "silk 7 3;over 2 0;knot 0 1;cut 2 4");
    due("threads", x.count(0), 3);
    due("thread(0, 1)", x.thread(0, 1), 9);
    due("thread(2, 0)", x.thread(2, 0), 2);
    tell(x, "cut 0 5");
    due("orders", x.count(1), 2);
    tell(x, "calm");
    due("orders behind calm", x.count(1), 0);
    due("over stays behind calm", x.count(6), 1);
    tell(x, "cut 1 1;free");
    due("over behind free", x.count(6), 0);
    due("knots behind free", x.count(5), 0);
    due("orders behind free", x.count(1), 1);
    tell(x, "knot 0 2;over 1 0;loom;endless 3 3");
    due("threads behind loom", x.count(0), 1);
    due("orders behind loom", x.count(1), 0);
    due("over behind loom", x.count(6), 0);
    due("knots behind loom", x.count(5), 0);
    due("thread(0, 0)", x.thread(0, 0), 3);
    due("count(3)", x.count(3), 1);
  }

  private static void p05goes() {
    WhoseThread x = told("plain 9 1;plain 2 1;plain 9 1;over 1 0;knot 0 1");
    x.keep(0); x.keep(1);
    x.dye(0, 3); x.lift(1); x.put(2, 0); x.knot(0, 1, 0); x.knot(1, 2, 1);
    x.cut(1); x.go(3);
    spell(x, "cut");
    due("loom() with a fault", x.loom(), NOT);
    due("the day stays", x.count(2), 3);
    due("undo stays", x.count(7), 7);
    x.erase();
    tell(x, "cut 0 0");
    due("day", x.count(2), 0);
    due("whole", x.count(3), 7);
    due("lost", x.count(4), 0);
    due("colour", x.thread(0, 2), 1);
    due("over", x.thread(0, 4), 2);
    due("knots", x.thread(0, 5), 2);
    due("knots of 2", x.thread(2, 5), 0);
    due("cut day", x.thread(1, 6), NONE);
    due("can be undone", x.count(7), 0);
    due("undo()", x.undo(), NOT);
    due("back(0)", x.back(0), NOT);
    due("back(1)", x.back(1), NOT);
  }

  private static void p06() {
    WhoseThread x = told("plain 9 1;brave 8 2;silk 2 3;endless 1 0;over 1 0;over 3 0;knot 0 2;knot 0 3");
    int[][] want = {{0, 9, 1, 0, 10, 12, NONE}, {1, 8, 2, 0, 0, 0, NONE}, {2, 2, 3, 0, 0, 1, NONE}, {3, 1, 0, 0, 0, 1, NONE}};
    for (int t = 0; t < 4; t++) {
      for (int w = 0; w < 7; w++) due("thread(" + t + ", " + w + ")", x.thread(t, w), want[t][w]);
      due("thread(t, 7)", x.thread(t, 7), OUTSIDE);
      due("thread(t, -1)", x.thread(t, -1), OUTSIDE);
    }
    due("thread(4, 0)", x.thread(4, 0), UNKNOWN);
    due("thread(4, 9)", x.thread(4, 9), UNKNOWN);
    for (int w : WILD) due("thread(" + w + ", 0)", x.thread(w, 0), UNKNOWN);
    x.go(2);
    due("run out", x.thread(2, 3), 2);
    due("run out's cut day", x.thread(2, 6), NONE);
    due("knots stay", x.thread(0, 5), 12);
    x.cut(0);
    due("cut", x.thread(1, 3), 1);
    due("cut day", x.thread(1, 6), 2);
    due("over stays", x.thread(0, 4), 10);
    due("endless stays whole", x.thread(3, 3), 0);
    x.go(20);
    due("endless does not run out", x.thread(3, 3), 0);
    due("cut does not run out", x.thread(1, 3), 1);
  }

  private static void p07() {
    WhoseThread x = told("plain 9 1;brave 8 2;silk 7 3;endless 6 0");
    int[][] want = {{9, 9, NOT, NOT, NOT}, {16, 16, 16, NOT, NOT}, {7, 7, NOT, 7, NOT}, {0, NOT, NOT, NOT, 0}};
    for (int t = 0; t < 4; t++) {
      for (int k = 0; k < 5; k++) due("as(" + t + ", " + k + ")", x.as(t, k), want[t][k]);
      due("as(t, 5)", x.as(t, 5), OUTSIDE);
      due("as(t, -1)", x.as(t, -1), OUTSIDE);
    }
    due("as(4, 0)", x.as(4, 0), UNKNOWN);
    due("as(-1, 7)", x.as(-1, 7), UNKNOWN);
    x.go(5);
    due("as(0, 1) on day 5", x.as(0, 1), 4);
    due("as(1, 2) on day 5", x.as(1, 2), 6);
    x.cut(0);
    due("as(0, 1) of cut", x.as(0, 1), 0);
    due("as(0, 2) of cut", x.as(0, 2), NOT);
    x.go(5);
    due("as(1, 2) of run out", x.as(1, 2), 0);
    due("as(3, 4)", x.as(3, 4), 0);
  }

  private static void p08() {
    WhoseThread x = told("plain 9 1;plain 9 1;cut 1 7;cut 0 99;cut 1 7");
    due("order(0, 0)", x.order(0, 0), 1);
    due("order(0, 1)", x.order(0, 1), 7);
    due("order(1, 0)", x.order(1, 0), 0);
    due("order(1, 1)", x.order(1, 1), 99);
    due("order(2, 0)", x.order(2, 0), 1);
    due("order(2, 2)", x.order(2, 2), OUTSIDE);
    due("order(2, -1)", x.order(2, -1), OUTSIDE);
    due("order(3, 0)", x.order(3, 0), UNKNOWN);
    due("order(3, 5)", x.order(3, 5), UNKNOWN);
    for (int w : WILD) due("order(" + w + ", 0)", x.order(w, 0), UNKNOWN);
    x.go(50);
    due("order(0, 1) gone", x.order(0, 1), 7);
  }

  private static void p09() {
    WhoseThread x = told("plain 9 1;plain 9 1;plain 9 1;plain 9 1;plain 3 1;over 3 0;over 2 0;over 1 3;over 4 2");
    due("top(0)", x.top(0), 4);
    due("top(2)", x.top(2), 4);
    due("top(3)", x.top(3), 1);
    due("top(1)", x.top(1), 1);
    due("top(5)", x.top(5), UNKNOWN);
    due("top(-1)", x.top(-1), UNKNOWN);
    x.go(3);
    due("top(4) run out", x.top(4), NOT);
    due("top(0) with 4 run out", x.top(0), 2);
    x.cut(2);
    due("top(0) with 2 cut", x.top(0), 1);
    due("top(2) cut", x.top(2), NOT);
    x.cut(3);
    due("top(0) with 1 cut", x.top(0), 3);
  }

  private static void p10() {
    WhoseThread x = told("plain 9 1;endless 9 1;brave 9 1;silk 9 1;over 1 0;knot 2 3;knot 1 3");
    due("cut(0) under endless", x.cut(0), 0);
    due("it can be undone", x.count(7), 1);
    due("all whole", x.count(3), 15);
    due("cut(1) endless", x.cut(1), 0);
    due("cut(2)", x.cut(2), 3);
    due("whole", x.count(3), 1);
    due("lost", x.count(4), 18);
    due("cut(1) is cut", x.cut(1), NOT);
    due("refused is not undone", x.count(7), 3);
    due("cut(0) now", x.cut(0), 1);
    due("lost", x.count(4), 27);
    due("cut(4)", x.cut(4), UNKNOWN);
    due("cut(-1)", x.cut(-1), UNKNOWN);
    tell(x, "plain 1 1");
    x.go(1);
    due("cut(4) run out", x.cut(4), NOT);
    due("cut day of none", x.thread(4, 6), NONE);
  }

  private static void p10knots() {
    WhoseThread x = told("plain 9 1;plain 2 1;plain 9 1;plain 9 1;knot 0 1;knot 1 2;knot 2 3");
    due("takes(0)", x.takes(0), 15);
    x.go(2);
    due("takes(0), 1 run out", x.takes(0), 1);
    due("cut(3)", x.cut(3), 2);
    due("whole", x.count(3), 1);
    due("lost", x.count(4), 14);
  }

  private static void p11() {
    WhoseThread x = told("plain 9 1;plain 9 1;plain 9 1;plain 3 1;over 1 0");
    due("put(2, 0)", x.put(2, 0), 2);
    due("put(2, 0) again", x.put(2, 0), NOT);
    due("put(1, 0) is over", x.put(1, 0), NOT);
    due("put(0, 1) ring", x.put(0, 1), NOT);
    due("put(2, 1)", x.put(2, 1), 1);
    due("put(0, 2) ring", x.put(0, 2), NOT);
    due("put(1, 2) ring", x.put(1, 2), NOT);
    due("put(1, 1)", x.put(1, 1), UNKNOWN);
    due("put(4, 0)", x.put(4, 0), UNKNOWN);
    due("put(0, 4)", x.put(0, 4), UNKNOWN);
    due("put(-1, 0)", x.put(-1, 0), UNKNOWN);
    due("undone can be", x.count(7), 2);
    x.go(3);
    due("put(3, 0) not whole", x.put(3, 0), NOT);
    due("put(0, 3) not whole", x.put(0, 3), NOT);
    due("pairs", x.count(6), 3);
    due("thread(0, 4)", x.thread(0, 4), 6);
    x.cut(2);
    due("put(1, 0) is over", x.put(1, 0), NOT);
    due("put(0, 1) ring", x.put(0, 1), NOT);
    // Ring through one that is cut: 2 stays over 1 and 0.
    WhoseThread y = told("plain 9 1;plain 9 1;plain 9 1;over 1 0;over 2 1");
    y.lift(2);
    y.cut(1);
    due("put(2, 0)", y.put(2, 0), 2);
    due("put(0, 2)", y.put(0, 2), NOT);
  }

  private static void p12() {
    WhoseThread x = told("plain 9 1;plain 3 1;plain 9 1;over 2 0;over 2 1;over 1 0");
    due("lift(0) over none", x.lift(0), NOT);
    due("lift(3)", x.lift(3), UNKNOWN);
    due("lift(-1)", x.lift(-1), UNKNOWN);
    due("lift(2)", x.lift(2), 2);
    due("thread(0, 4)", x.thread(0, 4), 2);
    due("lift(2) again", x.lift(2), NOT);
    due("pairs", x.count(6), 1);
    due("can be undone", x.count(7), 1);
    x.undo();
    x.go(3);
    due("lift(1) not whole", x.lift(1), NOT);
    due("lift(2) off one whole, one not", x.lift(2), 2);
  }

  private static void p13() {
    WhoseThread x = told("plain 9 1;plain 3 1;plain 9 1;knot 0 2");
    due("knot(0, 1, 1)", x.knot(0, 1, 1), 0);
    due("knot(1, 0, 1)", x.knot(1, 0, 1), 1);
    due("thread(1, 5)", x.thread(1, 5), 1);
    due("thread(0, 5)", x.thread(0, 5), 6);
    due("knots", x.count(5), 2);
    due("knot(2, 0, 0)", x.knot(2, 0, 0), 1);
    due("knot(2, 0, 0) again", x.knot(2, 0, 0), 0);
    due("knots", x.count(5), 1);
    due("can be undone", x.count(7), 4);
    due("knot(0, 0, 1)", x.knot(0, 0, 1), UNKNOWN);
    due("knot(0, 3, 1)", x.knot(0, 3, 1), UNKNOWN);
    due("knot(-1, 0, 2)", x.knot(-1, 0, 2), UNKNOWN);
    due("knot(0, 1, 2)", x.knot(0, 1, 2), OUTSIDE);
    due("knot(0, 1, -1)", x.knot(0, 1, -1), OUTSIDE);
    x.go(3);
    due("knot(0, 1, 0) not whole", x.knot(0, 1, 0), NOT);
    due("knot(1, 2, 1) not whole", x.knot(1, 2, 1), NOT);
    due("knot(1, 2, 2) not whole", x.knot(1, 2, 2), OUTSIDE);
    due("knots", x.count(5), 1);
  }

  private static void p14() {
    WhoseThread x = told("plain 9 1;plain 3 2");
    due("dye(0, 3)", x.dye(0, 3), 1);
    due("dye(0, 3) again", x.dye(0, 3), 3);
    due("dye(0, 0)", x.dye(0, 0), 3);
    due("thread(0, 2)", x.thread(0, 2), 0);
    due("dye(0, 4)", x.dye(0, 4), OUTSIDE);
    due("dye(0, -1)", x.dye(0, -1), OUTSIDE);
    due("dye(2, 4)", x.dye(2, 4), UNKNOWN);
    due("can be undone", x.count(7), 3);
    x.go(3);
    due("dye(1, 4) not whole", x.dye(1, 4), OUTSIDE);
    due("dye(1, 0) not whole", x.dye(1, 0), NOT);
    due("thread(1, 2)", x.thread(1, 2), 2);
  }

  private static void p15() {
    WhoseThread x = told("plain 60 1");
    due("go(0)", x.go(0), OUTSIDE);
    due("go(100)", x.go(100), OUTSIDE);
    due("go(-1)", x.go(-1), OUTSIDE);
    due("go(MAX)", x.go(Integer.MAX_VALUE), OUTSIDE);
    for (int i = 1; i <= 10; i++) due("go(99)", x.go(99), 0);
    due("day", x.count(2), 990);
    due("go(10)", x.go(10), FULL);
    due("go(100) near the end", x.go(100), OUTSIDE);
    due("go(9)", x.go(9), 0);
    due("day", x.count(2), 999);
    due("go(1)", x.go(1), FULL);
    due("can be undone", x.count(7), 8);
  }

  private static void p15orders() {
    WhoseThread x = told("plain 20 1;brave 9 1;silk 30 2;plain 5 1;over 1 0;cut 0 3;cut 0 3;cut 2 5;cut 3 5;cut 3 4");
    due("go(3)", x.go(3), 0);
    due("whole on day 3", x.count(3), 15);
    due("go(1): first order takes 1, then 0", x.go(1), 12 + 17);
    due("cut day", x.thread(0, 6), 3);
    due("go(1): 3 with a year", x.go(1), 1);
    due("3 is cut", x.thread(3, 3), 1);
    due("go(9): silk", x.go(9), 0);
    due("2 is cut", x.thread(2, 6), 5);
    due("lost", x.count(4), 30);
    due("day", x.count(2), 14);
    x = told("plain 5 1;plain 6 1;cut 0 5;cut 1 5");
    due("go(99): the first ran out, the second has a year", x.go(99), 1);
    due("0 ran out", x.thread(0, 3), 2);
    x = told("plain 5 1;brave 60 1;cut 1 0");
    due("go(1)", x.go(1), 120);
    due("go(1)", x.go(1), 0);
  }

  private static void p16() {
    WhoseThread x = told("plain 9 1;plain 3 1;plain 9 1;over 1 0;cut 2 0");
    x.dye(0, 2); x.lift(1); x.put(1, 0); x.knot(0, 1, 1); x.go(2); x.cut(0);
    due("lost", x.count(4), 9 + 7 + 1);
    due("undo() of cut", x.undo(), 5);
    due("whole", x.count(3), 3);
    due("lost", x.count(4), 9);
    due("cut day", x.thread(0, 6), NONE);
    due("undo() of go", x.undo(), 4);
    due("day", x.count(2), 0);
    due("whole", x.count(3), 7);
    due("lost", x.count(4), 0);
    due("undo() of knot", x.undo(), 3);
    due("knots", x.count(5), 0);
    due("undo() of put", x.undo(), 2);
    due("pairs", x.count(6), 0);
    due("undo() of lift", x.undo(), 1);
    due("pairs", x.count(6), 1);
    due("undo() of dye", x.undo(), 0);
    due("colour", x.thread(0, 2), 1);
    due("undo() of nothing", x.undo(), NOT);
    due("count(7)", x.count(7), 0);
  }

  private static void p16eight() {
    WhoseThread x = told("plain 60 1");
    for (int i = 1; i <= 9; i++) x.go(i);
    spell(x, "ca");
    due("count(7)", x.count(7), 8);
    int day = 45;
    for (int i = 9; i >= 2; i--) {
      due("undo() " + i, x.undo(), i - 2);
      day -= i;
      due("day", x.count(2), day);
    }
    due("undo() of the ninth", x.undo(), NOT);
    due("day", x.count(2), 1);
    due("the text stays", x.count(8), 2);
    x.go(4);
    due("count(7)", x.count(7), 1);
    due("undo()", x.undo(), 0);
    due("day", x.count(2), 1);
  }

  private static void p17() {
    WhoseThread x = told("plain 60 1");
    due("keep(-1)", x.keep(-1), UNKNOWN);
    due("keep(2)", x.keep(2), UNKNOWN);
    due("keep(0)", x.keep(0), 0);
    x.go(7);
    due("keep(1)", x.keep(1), 7);
    due("keep is nothing to undo", x.count(7), 1);
    due("undo() behind keep", x.undo(), 0);
    due("keep(1) anew", x.keep(1), 0);
    x.go(5);
    due("back(1)", x.back(1), 0);
  }

  private static void p18() {
    WhoseThread x = told("plain 9 1;plain 9 2;plain 2 3;over 1 0;knot 0 2");
    due("back(0)", x.back(0), NOT);
    due("back(2)", x.back(2), UNKNOWN);
    due("back(-1)", x.back(-1), UNKNOWN);
    x.dye(0, 3); x.go(2); x.cut(0);
    x.keep(1);
    due("back(0) of none kept", x.back(0), NOT);
    due("it changes nothing", x.count(7), 3);
    x.lift(0); x.knot(0, 2, 0); x.dye(0, 0); x.go(1); x.cut(0);
    due("back(1)", x.back(1), 2);
    due("count(7)", x.count(7), 0);
    due("undo()", x.undo(), NOT);
    due("whole", x.count(3), 1);
    due("lost", x.count(4), 7);
    due("cut day of 1", x.thread(1, 6), 2);
    due("cut day of 0", x.thread(0, 6), NONE);
    due("colour", x.thread(0, 2), 3);
    due("run out", x.thread(2, 3), 2);
    due("knots", x.count(5), 1);
    due("pairs", x.count(6), 1);
    x.go(9);
    due("back(1) again", x.back(1), 2);
    tell(x, "calm");
    due("back(1) behind a text", x.back(1), NOT);
  }

  private static void p19() {
    WhoseThread x = told("plain 9 1;endless 9 1;brave 9 1;silk 9 1;plain 2 1;over 1 0;knot 2 3;knot 1 3;knot 4 2");
    due("takes(0)", x.takes(0), 0);
    due("takes(1)", x.takes(1), 0);
    due("takes(2)", x.takes(2), 30);
    due("takes(4)", x.takes(4), 30);
    due("takes(5)", x.takes(5), UNKNOWN);
    due("takes(-1)", x.takes(-1), UNKNOWN);
    x.go(2);
    due("takes(4) run out", x.takes(4), 0);
    due("takes(2)", x.takes(2), 14);
    due("nothing changes", x.count(3), 15);
    due("nothing to undo", x.count(7), 1);
  }

  private static void p20() {
    WhoseThread x = told("plain 9 1;endless 9 1;brave 9 1;silk 9 1;knot 0 1;knot 0 2;knot 0 3");
    due("loss(0)", x.loss(0), 27);
    due("loss(1)", x.loss(1), 0);
    due("loss(3)", x.loss(3), 27);
    due("loss(4)", x.loss(4), UNKNOWN);
    due("loss(-1)", x.loss(-1), UNKNOWN);
    x.go(4);
    due("loss(0)", x.loss(0), 15);
    x.knot(0, 3, 0);
    due("loss(3) of silk", x.loss(3), 0);
    x.cut(0);
    due("loss(0) of cut", x.loss(0), 0);
    due("lost", x.count(4), 15);
  }

  private static void p21() {
    WhoseThread x = told("plain 9 1;plain 9 1;plain 9 1;plain 3 1;plain 9 1;over 4 0;over 2 0;over 1 2;over 3 0;over 1 4");
    due("lifts(0, 0)", x.lifts(0, 0), 3);
    due("lifts(0, 1)", x.lifts(0, 1), 28);
    due("lifts(1, 0)", x.lifts(1, 0), 0);
    due("lifts(1, 1)", x.lifts(1, 1), 0);
    due("lifts(2, 1)", x.lifts(2, 1), 2);
    due("lifts(0, 2)", x.lifts(0, 2), OUTSIDE);
    due("lifts(0, -1)", x.lifts(0, -1), OUTSIDE);
    due("lifts(5, 2)", x.lifts(5, 2), UNKNOWN);
    x.go(3);
    due("lifts(0, 1)", x.lifts(0, 1), 20);
    due("lifts(3, 0)", x.lifts(3, 0), NOT);
    due("lifts(3, 2)", x.lifts(3, 2), OUTSIDE);
  }

  private static void p22() {
    WhoseThread x = told("plain 20 1;brave 9 1;silk 30 2;plain 5 1;endless 1 1;over 1 0;knot 2 4;cut 0 3;cut 0 3;cut 2 5;cut 3 6;cut 1 99");
    due("doom(0)", x.doom(0), 29);
    due("doom(1)", x.doom(1), 23);
    due("doom(2)", x.doom(2), OUTSIDE);
    due("doom(-1)", x.doom(-1), OUTSIDE);
    due("nothing changes", x.count(2), 0);
    due("nothing to undo", x.count(7), 0);
    x.go(3);
    due("doom(0), orders of this day, too", x.doom(0), 29);
    x.cut(1);
    due("doom(0) without 1", x.doom(0), 17);
    due("doom(1) without 1", x.doom(1), 21);
    x.go(1);
    due("doom(0)", x.doom(0), 0);
    due("doom(1)", x.doom(1), 20);
    x = told("endless 1 0;plain 60 0;cut 1 59;cut 0 99;knot 0 1");
    due("doom(0)", x.doom(0), 1);
    due("doom(1)", x.doom(1), 3);
    x = told("silk 60 0;endless 1 0;knot 0 1;cut 0 99");
    x.go(99);
    due("doom(1) of run out", x.doom(1), 0);
    x.go(99);
    due("doom(0) on day 198", x.doom(0), 0);
  }

  private static void p23() {
    WhoseThread x = told("plain 20 0;plain 4 0;plain 10 0;cut 0 2;cut 1 8;cut 2 5");
    due("doom(0)", x.doom(0), 18 + 0 + 5);
    // Two rows lose 19: 5 2 8 (15 + 2 + 2) and, behind it, 8 2 5 (12 + 2 + 5).
    due("swapped(NONE)", x.swapped(NONE), 19);
    due("swapped(0)", x.swapped(0), 5);
    due("swapped(1)", x.swapped(1), 2);
    due("swapped(2)", x.swapped(2), 8);
    due("swapped(3)", x.swapped(3), UNKNOWN);
    due("swapped(-2)", x.swapped(-2), UNKNOWN);
    due("order(0, 1) stays", x.order(0, 1), 2);
    x.go(3);
    due("two to come: 1 has run out on day 5, 2 has two years on day 8", x.swapped(NONE), 2);
    due("swapped(0) gone", x.swapped(0), 2);
    due("swapped(1)", x.swapped(1), 5);
    due("swapped(2)", x.swapped(2), 8);
    x.go(9);
    due("all gone", x.swapped(NONE), 0);
    due("swapped(1) gone", x.swapped(1), 8);
  }

  private static void p23ties() {
    WhoseThread x = told("silk 20 0;silk 4 0;silk 10 0;cut 0 9;cut 1 5;cut 2 5;cut 0 1");
    due("least", x.swapped(NONE), 0);
    int[] row = {1, 5, 5, 9};
    for (int i = 0; i < 4; i++) due("swapped(" + i + ")", x.swapped(i), row[i]);
    // Orders of one day go by their numbers: the first cut at 0 falls on 1, which lies over it.
    x = told("plain 20 0;plain 9 0;over 1 0;cut 0 4;cut 1 30");
    due("1 at 4, 0 at 30 run out", x.swapped(NONE), 5);
    due("swapped(0)", x.swapped(0), 4);
    due("swapped(1)", x.swapped(1), 30);
  }

  private static void p23sameDay() {
    // Both on one day, by their numbers: 1 (5 years), then 0 (16); the other way would lose 5.
    WhoseThread x = told("plain 20 0;plain 9 0;over 1 0;cut 1 4;cut 0 4");
    due("doom(0)", x.doom(0), 21);
    due("swapped(NONE)", x.swapped(NONE), 21);
    x.go(4);
    due("on the day itself", x.swapped(NONE), 21);
    due("swapped(1)", x.swapped(1), 4);
    x.go(1);
    due("on the next", x.swapped(NONE), 0);
    x = told("plain 20 0;plain 9 0;over 1 0;plain 9 1;cut 2 0;cut 1 4;cut 0 4");
    due("swapped(NONE) of three: 0 on day 0 (9), 2 on day 4 (5)", x.swapped(NONE), 14);
    due("swapped(0)", x.swapped(0), 4);
    due("swapped(1)", x.swapped(1), 4);
    due("swapped(2)", x.swapped(2), 0);
  }

  private static void p24() {
    WhoseThread x = told("plain 60 0;plain 50 0;brave 40 0;silk 30 1;endless 1 0;plain 60 1;knot 1 4");
    due("tails(NONE)", x.tails(NONE), 0);
    due("tails(0)", x.tails(0), NONE);
    due("tails(6)", x.tails(6), UNKNOWN);
    due("tails(-2)", x.tails(-2), UNKNOWN);
    x.go(10);
    x.cut(1);
    due("days, not years", x.tails(NONE), 40);
    due("first row: to 0", x.tails(1), 0);
    due("endless has none", x.tails(4), NONE);
    x.go(5);
    x.cut(2);
    due("both given", x.tails(NONE), 40);
    due("one whole of the colour: the longer", x.tails(1), 0);
    due("tails(2)", x.tails(2), NONE);
    x.dye(5, 0);
    due("two whole of the colour", x.tails(NONE), 65);
    due("tails(1)", x.tails(1), 0);
    due("tails(2)", x.tails(2), 5);
    x.dye(3, 0);
    due("tails(2) to silk", x.tails(2), 3);
    x = told("plain 9 0;endless 9 0;plain 3 0");
    x.cut(0);
    due("not to an endless one", x.tails(0), 2);
    x.go(3);
    due("not to one run out", x.tails(NONE), 0);
    due("tails(0)", x.tails(0), NONE);
    due("run out has none", x.tails(2), NONE);
  }

  private static void p24ties() {
    WhoseThread x = told("plain 9 0;plain 9 0;plain 9 0;plain 9 1;plain 9 0");
    x.cut(0); x.cut(1); x.cut(3);
    due("tails(NONE)", x.tails(NONE), 18);
    due("tails(0)", x.tails(0), 2);
    due("tails(1)", x.tails(1), 4);
    due("tails(3)", x.tails(3), NONE);
    x.cut(2);
    due("one whole for three alike", x.tails(NONE), 9);
    due("none ahead of all", x.tails(0), NONE);
    due("tails(1)", x.tails(1), NONE);
    due("the last has it", x.tails(2), 4);
  }

  private static void p25() {
    WhoseThread x = told("plain 10 0;brave 10 0;silk 12 1;endless 60 0;plain 3 0");
    due("given(0, 25, 0)", x.given(0, 25, 0), 2);
    due("given(0, 26, 0)", x.given(0, 26, 0), NONE);
    due("given(0, 5, 10): brave 5, silk 2", x.given(0, 5, 10), 1);
    due("given(0, 7, 10)", x.given(0, 7, 10), 1);
    due("given(0, 8, 10)", x.given(0, 8, 10), NONE);
    due("given(0, 4, 11): brave 4, silk 1", x.given(0, 5, 11), 1);
    due("given(0, 6, 11)", x.given(0, 6, 11), NONE);
    due("given(2, 23, 0): like ones", x.given(2, 23, 0), 0);
    due("given(3, 1, 19): to endless", x.given(3, 1, 19), NONE);
    due("given(3, 1, 18)", x.given(3, 1, 18), 1);
    due("given(0, 0, 0)", x.given(0, 0, 0), OUTSIDE);
    due("given(0, 100, 0)", x.given(0, 100, 0), OUTSIDE);
    due("given(0, 1, -1)", x.given(0, 1, -1), OUTSIDE);
    due("given(0, 1, 100)", x.given(0, 1, 100), OUTSIDE);
    due("given(0, 99, 99)", x.given(0, 99, 99), NONE);
    due("given(5, 0, 0)", x.given(5, 0, 0), UNKNOWN);
    x.go(3);
    due("given(4, 1, 0) not whole", x.given(4, 1, 0), NOT);
    due("given(4, 0, 0) not whole", x.given(4, 0, 0), OUTSIDE);
    due("given(0, 16, 0)", x.given(0, 16, 0), 2);
    due("given(0, 17, 0)", x.given(0, 17, 0), NONE);
  }

  private static void p26() {
    WhoseThread x = told("plain 9 0;plain 9 0;plain 9 0;endless 9 0;over 1 0;knot 1 3");
    due("cat(1, 0)", x.cat(1, 0), 1);
    due("cat(1, 1)", x.cat(1, 1), 2);
    due("cat(3, 0)", x.cat(3, 0), 1);
    due("cat(3, 1)", x.cat(3, 1), 2);
    due("cat(0, 0)", x.cat(0, 0), 0);
    due("cat(0, 1)", x.cat(0, 1), 1);
    due("cat(2, 1)", x.cat(2, 1), 4);
    due("cat(0, 2)", x.cat(0, 2), OUTSIDE);
    due("cat(0, -1)", x.cat(0, -1), OUTSIDE);
    due("cat(4, 2)", x.cat(4, 2), UNKNOWN);
    x.cut(0);
    due("cat(0, 0)", x.cat(0, 0), 1);
    due("cat(0, 1)", x.cat(0, 1), 2);
    due("cat(1, 0) of cut", x.cat(1, 0), 0);
    due("cat(1, 1) of cut", x.cat(1, 1), 1);
    x.go(9);
    due("cat(0, 0) with none whole", x.cat(0, 0), NOT);
    due("cat(0, 2) with none whole", x.cat(0, 2), OUTSIDE);
  }

  private static void p27() {
    WhoseThread x = told("plain 9 0;brave 8 0;silk 9 0;endless 9 0;over 1 0");
    due("mean(0)", x.mean(0), 8);
    due("mean(1)", x.mean(1), 1);
    due("mean(2)", x.mean(2), OUTSIDE);
    due("mean(-1)", x.mean(-1), OUTSIDE);
    x.cut(0);
    due("mean(0)", x.mean(0), 3);
    due("mean(1)", x.mean(1), 1);
    x.go(1);
    due("mean(0)", x.mean(0), 8);
    due("mean(1)", x.mean(1), 3);
    x.cut(0);
    due("mean(0) of nothing lost", x.mean(0), 0);
    due("mean(1) of nothing lost", x.mean(1), 1);
    x = told("plain 9 0");
    x.cut(0);
    due("mean(0) with none whole", x.mean(0), NOT);
    due("mean(2) with none whole", x.mean(2), OUTSIDE);
  }

  private static void p28() {
    WhoseThread x = told("plain 9 0;plain 9 0;plain 9 0;endless 9 0;plain 2 0;over 1 0;knot 1 2");
    due("whose(6)", x.whose(6), 7);
    due("whose(2)", x.whose(2), 0);
    due("whose(0)", x.whose(0), 8);
    due("whose(16)", x.whose(16), 16);
    due("whose(32)", x.whose(32), UNKNOWN);
    due("whose(38)", x.whose(38), UNKNOWN);
    due("whose(-1)", x.whose(-1), UNKNOWN);
    due("whose(MIN)", x.whose(Integer.MIN_VALUE), UNKNOWN);
    x.go(2);
    due("whose(0), one run out", x.whose(0), 24);
    due("whose(16)", x.whose(16), 0);
    tell(x, "plain 1 1;plain 1 1;plain 1 1");
    due("whose(128)", x.whose(128), 128);
    due("whose(255)", x.whose(255), 0);
    due("whose(256)", x.whose(256), UNKNOWN);
  }

  private static void p29() {
    WhoseThread x = told("endless 9 0;plain 9 0;brave 4 0;plain 8 0;over 0 1");
    due("fourth(0)", x.fourth(0), 2);
    due("fourth(1)", x.fourth(1), 8);
    due("fourth(2)", x.fourth(2), OUTSIDE);
    due("fourth(-1)", x.fourth(-1), OUTSIDE);
    x.go(1);
    due("fourth(0) on day 1", x.fourth(0), 2);
    due("fourth(1) on day 1", x.fourth(1), 6);
    x.cut(2); x.lift(0);
    due("fourth(0)", x.fourth(0), 3);
    x.cut(3); x.cut(1);
    due("fourth(0) of endless alone", x.fourth(0), NONE);
    due("fourth(1) of endless alone", x.fourth(1), NONE);
    x = told("plain 9 0;silk 9 0;silk 9 0;over 2 0");
    due("fourth(0), nothing lost", x.fourth(0), 0);
    due("fourth(1), nothing lost", x.fourth(1), 0);
  }

  /** Eight threads in a chain, six orders: the ends of every row are met. */
  private static void full() {
    WhoseThread x = told("plain 10 0;plain 11 0;plain 12 0;plain 13 0;plain 14 0;plain 15 0;plain 16 0;plain 17 0");
    tell(x, "over 1 0;over 2 1;over 3 2;over 4 3;over 5 4;over 6 5;over 7 6");
    tell(x, times("cut 0 1", 6));
    due("top(0)", x.top(0), 7);
    due("takes(0)", x.takes(0), 128);
    due("loss(0)", x.loss(0), 17);
    due("lifts(6, 1)", x.lifts(6, 1), 128);
    due("doom(0)", x.doom(0), 16 + 15 + 14 + 13 + 12 + 11);
    due("doom(1)", x.doom(1), 252);
    due("swapped(NONE)", x.swapped(NONE), 81);
    due("swapped(5)", x.swapped(5), 1);
    due("given(7, 91, 0)", x.given(7, 91, 0), 6);
    due("given(0, 98, 0)", x.given(0, 98, 0), 7);
    due("given(0, 99, 0)", x.given(0, 99, 0), NONE);
    due("cat(7, 0)", x.cat(7, 0), 1);
    due("cat(7, 1)", x.cat(7, 1), 1);
    due("mean(0)", x.mean(0), 17);
    due("whose(128)", x.whose(128), 255);
    due("fourth(0)", x.fourth(0), 0);
    due("fourth(1)", x.fourth(1), 17);
    due("put(0, 7) ring", x.put(0, 7), NOT);
    for (int i = 0; i < 4; i++) due("cut(0)", x.cut(0), 1);
    due("tails(NONE)", x.tails(NONE), 17 + 16 + 15 + 14);
    for (int i = 4; i < 8; i++) due("tails(" + i + ")", x.tails(i), i - 4);
    due("thread(7, 6)", x.thread(7, 6), 0);
    due("undo()", x.undo(), 3);
    due("tails(NONE) with three", x.tails(NONE), 48);
    due("tails(4) is whole", x.tails(4), NONE);
    tell(x, "knot 0 7;knot 7 1;knot 1 6;knot 6 2;knot 2 5;knot 5 3;knot 3 4");
    due("takes(4) by a long row of knots", x.takes(4), 255);
    due("cut(4)", x.cut(4), 8);
    due("lost", x.count(4), 108);
    due("tails(NONE) with none whole", x.tails(NONE), 0);
  }

  private static void p30() {
    WhoseThread x = told("plain 9 0;brave 4 0;silk 8 0;over 1 0;over 2 0;knot 0 1;knot 1 2;knot 2 0;cut 0 1;cut 2 2");
    x.knot(0, 2, 0);
    x.knot(1, 0, 0);
    x.go(2);
    spell(x, "loo");
    int[] want = {3, 2, 2, 1, 6, 1, 2, 3, 3};
    for (int what = 0; what < 9; what++) due("count(" + what + ")", x.count(what), want[what]);
    due("count(9)", x.count(9), OUTSIDE);
    due("count(-1)", x.count(-1), OUTSIDE);
    due("count(MIN)", x.count(Integer.MIN_VALUE), OUTSIDE);
  }
}
