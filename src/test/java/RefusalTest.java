import java.lang.reflect.Method;
import java.util.ArrayList;
import java.util.Arrays;
import java.util.List;
import java.util.Map;
import java.util.TreeMap;
import java.util.TreeSet;

/**
 * "Refused, and nothing changes: UNKNOWN .., OUTSIDE .., NOT .., FULL: the first of these that fits." Every call with
 * many arguments, in several states: a list of all refusals that fit is made as each promise words them, the first of
 * them is due; behind it, and behind all that only asks, a second object without that call must answer alike.
 */
public final class RefusalTest {
  private static final int NONE = -1, UNKNOWN = -2, OUTSIDE = -3, NOT = -4, FULL = -5;
  private static final String[] NAMES = {"", "", "UNKNOWN", "OUTSIDE", "NOT", "FULL"};
  private static final int[] WILD = {Integer.MIN_VALUE, Integer.MIN_VALUE + 1, -256, -100, -9, -5, -4, -3, -2, -1, 0, 1, 2, 3, 4, 5, 6, 7, 8,
    9, 10, 16, 31, 32, 33, 64, 99, 100, 127, 128, 255, 256, 257, 999, 1000, 65536, Integer.MAX_VALUE};
  private static final int[] FEW = {Integer.MIN_VALUE, -2, -1, 0, 1, 2, 3, 4, 5, 6, 7, 8, 9, 99, 100, Integer.MAX_VALUE};
  private static final String ASKING = " fault thread as order top takes loss lifts doom swapped tails given cat mean whose fourth count ";
  private static final String[] LOOMS = {"new", "told", "under way", "full", "text full", "late", "none whole", "kept", "two days left"};
  /** Sets of refusals that some call must have fitted all at once, so that their order was seen. */
  private static final String[] TOGETHER = {"write OUTSIDE FULL", "thread UNKNOWN OUTSIDE", "as UNKNOWN OUTSIDE", "as OUTSIDE NOT",
    "order UNKNOWN OUTSIDE", "put UNKNOWN NOT", "knot UNKNOWN OUTSIDE", "knot UNKNOWN NOT", "knot OUTSIDE NOT", "knot UNKNOWN OUTSIDE NOT",
    "dye UNKNOWN OUTSIDE", "dye OUTSIDE NOT", "go OUTSIDE FULL", "back UNKNOWN NOT", "lifts UNKNOWN OUTSIDE", "lifts OUTSIDE NOT",
    "given UNKNOWN OUTSIDE", "given OUTSIDE NOT", "cat UNKNOWN OUTSIDE", "cat UNKNOWN NOT", "cat OUTSIDE NOT", "cat UNKNOWN OUTSIDE NOT",
    "mean OUTSIDE NOT"};

  private static int wrong = 0;
  private static int calls = 0;
  private static int refused = 0;
  private static final Map<String, Integer> FITTED = new TreeMap<>();

  public static void main(String[] args) throws Exception {
    Method[] face = WhoseThread.class.getDeclaredMethods();
    Arrays.sort(face, (a, b) -> a.getName().compareTo(b.getName()));
    for (String loom : LOOMS) {
      int[][] due = {probe(made(loom), 0), probe(made(loom), 1), probe(made(loom), 2), probe(made(loom), 3)};
      for (Method m : face) {
        if (java.lang.reflect.Modifier.isPublic(m.getModifiers())) everyCall(loom, m, due);
      }
    }
    for (String pair : TOGETHER) {
      if (!FITTED.containsKey(pair)) fail("no call fitted " + pair);
    }
    System.out.println(LOOMS.length + " looms, " + calls + " calls, " + refused + " refused, " + wrong + " not as due; calls that several refusals fitted: " + FITTED);
    if (wrong != 0) System.exit(1);
  }

  private static void fail(String what) {
    wrong++;
    if (wrong < 40) System.out.println(what);
  }

  // ---- looms

  private static void spell(WhoseThread x, String text) {
    for (char letter : text.toCharArray()) x.write(letter);
  }

  private static void tell(WhoseThread x, String text) {
    spell(x, text);
    if (x.loom() < 1) fail("not told: " + text);
  }

  private static final String FIVE = "plain 20 1;brave 9 2;silk 3 3;endless 5 0;plain 12 1;over 1 0;over 3 1;knot 0 4;knot 1 2;cut 0 6;cut 4 9";

  private static WhoseThread made(String loom) {
    WhoseThread x = new WhoseThread();
    switch (loom) {
      case "new": break;
      case "told": tell(x, FIVE); spell(x, "plain 9 0"); break;
      case "under way": underWay(x); spell(x, "calm;silk 9 0;x"); break;
      case "full": full(x); break;
      case "text full": tell(x, "plain 9 0;plain 9 0;cut 0 1"); x.keep(1); x.go(1); spell(x, "plain 7 2" + " ".repeat(151)); break;
      case "late": tell(x, "plain 60 0;endless 9 1;cut 0 99"); days(x, 999); spell(x, "calm"); break;
      case "none whole": tell(x, "plain 3 0;plain 4 1;plain 9 1;over 1 0;knot 0 1"); x.keep(0); x.cut(2); x.go(4); x.keep(1); break;
      case "kept": tell(x, FIVE); x.dye(0, 3); x.keep(0); x.go(3); x.put(4, 0); x.keep(1); x.lift(4); break;
      default: tell(x, "endless 60 3;plain 9 2"); days(x, 997); break;
    }
    return x;
  }

  private static void underWay(WhoseThread x) {
    tell(x, FIVE);
    x.keep(0);
    x.put(4, 0);
    x.dye(1, 3);
    x.go(3);
    x.knot(0, 1, 1);
    x.lift(3);
    x.cut(4);
  }

  private static void full(WhoseThread x) {
    tell(x, "brave 9 0;silk 9 1;plain 9 2;plain 9 3;endless 9 0;brave 60 1;plain 60 2;plain 2 0;cut 7 0;cut 6 9;cut 5 8;cut 4 7;cut 3 6;cut 0 5");
    for (int i = 0; i < 4; i++) {
      x.put(i, i + 1);
      x.knot(i, i + 2, 1);
    }
    x.keep(0);
    x.go(2);
    x.keep(1);
    x.cut(2);
  }

  private static void days(WhoseThread x, int n) {
    for (int left = n; left > 0; left -= Math.min(99, left)) x.go(Math.min(99, left));
  }

  // ---- calls

  private static void everyCall(String loom, Method m, int[][] due) throws Exception {
    int arguments = m.getParameterCount();
    if (arguments == 0) oneCall(loom, m, due);
    for (int a : arguments == 1 ? WILD : FEW) {
      if (arguments == 1) oneCall(loom, m, due, a);
      for (int b : FEW) {
        if (arguments == 2) oneCall(loom, m, due, a, b);
        for (int c : FEW) {
          if (arguments == 3) oneCall(loom, m, due, a, b, c);
        }
      }
      if (arguments == 0) return;
    }
  }

  private static void oneCall(String loom, Method m, int[][] due, Object... arguments) throws Exception {
    calls++;
    String call = loom + ": " + m.getName() + Arrays.toString(arguments);
    WhoseThread x = made(loom);
    TreeSet<Integer> fits = fitting(made(loom), m.getName(), arguments);
    int got = (Integer) m.invoke(x, arguments);
    // They are numbered downwards in the order in which they are looked at.
    int want = fits.isEmpty() ? NONE : fits.last();
    if (fits.size() > 1) FITTED.merge(told(m.getName(), fits), 1, Integer::sum);
    if (want == NONE ? got < NONE : got != want) fail(call + " answered " + got + ", refusals that fit: " + fits);
    if (got < NONE) refused++;
    if (got >= NONE && !ASKING.contains(" " + m.getName() + " ")) return;
    for (int kind = 0; kind < due.length; kind++) {
      if (kind > 0) m.invoke(x = made(loom), arguments);
      if (!Arrays.equals(probe(x, kind), due[kind])) fail(call + " answered " + got + " and changed something (" + kind + ")");
    }
  }

  private static String told(String name, TreeSet<Integer> fits) {
    StringBuilder all = new StringBuilder(name);
    for (int refusal : fits.descendingSet()) all.append(' ').append(NAMES[-refusal]);
    return all.toString();
  }

  // ---- what fits, as each promise words it

  private static TreeSet<Integer> fitting(WhoseThread x, String name, Object[] given) {
    int[] a = new int[3];
    for (int i = 0; i < given.length; i++) a[i] = (Integer) given[i];
    TreeSet<Integer> fits = new TreeSet<>();
    if (" thread as top cut lift dye takes loss lifts given cat ".contains(" " + name + " ")) add(fits, !known(x, a[0]), UNKNOWN);
    if (" top cut lift dye lifts given ".contains(" " + name + " ")) add(fits, known(x, a[0]) && !whole(x, a[0]), NOT);
    if (" put knot ".contains(" " + name + " ")) {
      add(fits, !known(x, a[0]) || !known(x, a[1]) || a[0] == a[1], UNKNOWN);
      add(fits, (known(x, a[0]) && !whole(x, a[0])) || (known(x, a[1]) && !whole(x, a[1])), NOT);
    }
    switch (name) {
      case "write":
        add(fits, a[0] < 0 || a[0] > 255, OUTSIDE);
        add(fits, x.count(8) == 160, FULL);
        break;
      case "loom": add(fits, x.fault() != NONE, NOT); break;
      case "thread": add(fits, a[1] < 0 || a[1] > 6, OUTSIDE); break;
      case "as":
        add(fits, a[1] < 0 || a[1] > 4, OUTSIDE);
        add(fits, known(x, a[0]) && !isSuch(x.thread(a[0], 0), a[1]), NOT);
        break;
      case "order":
        add(fits, a[0] < 0 || a[0] >= x.count(1), UNKNOWN);
        add(fits, a[1] != 0 && a[1] != 1, OUTSIDE);
        break;
      case "put": add(fits, isAbove(x, a[0], a[1], 8) || isAbove(x, a[1], a[0], 1), NOT); break;
      case "lift": add(fits, known(x, a[0]) && isOverNone(x, a[0]), NOT); break;
      case "knot": add(fits, a[2] != 0 && a[2] != 1, OUTSIDE); break;
      case "dye": add(fits, a[1] < 0 || a[1] > 3, OUTSIDE); break;
      case "go":
        add(fits, a[0] < 1 || a[0] > 99, OUTSIDE);
        add(fits, (long) x.count(2) + a[0] > 999, FULL);
        break;
      case "undo": add(fits, x.count(7) == 0, NOT); break;
      case "keep": add(fits, a[0] != 0 && a[0] != 1, UNKNOWN); break;
      case "back":
        add(fits, a[0] != 0 && a[0] != 1, UNKNOWN);
        add(fits, !isKept(x, a[0]), NOT);
        break;
      case "lifts": case "cat": add(fits, a[1] != 0 && a[1] != 1, OUTSIDE); break;
      case "doom": case "mean": case "fourth": add(fits, a[0] != 0 && a[0] != 1, OUTSIDE); break;
      case "swapped": add(fits, a[0] < NONE || a[0] >= x.count(1), UNKNOWN); break;
      case "tails": add(fits, a[0] < NONE || a[0] >= x.count(0), UNKNOWN); break;
      case "given": add(fits, a[1] < 1 || a[1] > 99 || a[2] < 0 || a[2] > 99, OUTSIDE); break;
      case "whose": add(fits, a[0] < 0 || a[0] >= 1 << x.count(0), UNKNOWN); break;
      case "count": add(fits, a[0] < 0 || a[0] > 8, OUTSIDE); break;
      default: break;
    }
    if (name.equals("cat") || name.equals("mean")) add(fits, x.count(3) == 0, NOT);
    return fits;
  }

  private static void add(TreeSet<Integer> fits, boolean holds, int refusal) {
    if (holds) fits.add(refusal);
  }

  private static boolean known(WhoseThread x, int thread) {
    return thread >= 0 && thread < x.count(0);
  }

  private static boolean whole(WhoseThread x, int thread) {
    return x.thread(thread, 3) == 0;
  }

  /** Rows: PLAIN, BRAVE, SILK, ENDLESS; places: THREAD, PLAIN, BRAVE, SILK, ENDLESS. */
  private static boolean isSuch(int kind, int asked) {
    String[] rows = {"yynnn", "yyynn", "yynyn", "ynnny"};
    return asked >= 0 && asked < 5 && rows[kind].charAt(asked) == 'y';
  }

  /** Whether the other is over the one, or over one that is over it, and so on, in so many steps at most. */
  private static boolean isAbove(WhoseThread x, int one, int other, int steps) {
    if (!known(x, one) || !known(x, other) || steps == 0) return false;
    for (int i = 0; i < x.count(0); i++) {
      if ((x.thread(one, 4) >> i & 1) == 1 && (i == other || isAbove(x, i, other, steps - 1))) return true;
    }
    return false;
  }

  private static boolean isOverNone(WhoseThread x, int thread) {
    for (int i = 0; i < x.count(0); i++) {
      if ((x.thread(i, 4) >> thread & 1) == 1) return false;
    }
    return true;
  }

  /** Each loom is told anew, so that it can be tried out. */
  private static boolean isKept(WhoseThread x, int k) {
    return (k == 0 || k == 1) && x.back(k) >= 0;
  }

  // ---- all that can be seen of an object

  private static int[] probe(WhoseThread x, int kind) {
    List<Integer> seen = new ArrayList<>();
    switch (kind) {
      case 0: view(x, seen); break;
      case 1:
        while (seen.size() < 400 && x.count(7) > 0) {
          seen.add(x.undo());
          glance(x, seen);
        }
        seen.add(x.undo());
        break;
      case 2:
        for (int k = 0; k < 2; k++) {
          seen.add(x.back(k));
          glance(x, seen);
        }
        break;
      default:
        seen.add(x.fault());
        seen.add(x.write(';'));
        seen.add(x.fault());
        spell(x, "plain 9 0");
        seen.add(x.fault());
        seen.add(x.loom());
        glance(x, seen);
        break;
    }
    return seen.stream().mapToInt(i -> i).toArray();
  }

  private static void glance(WhoseThread x, List<Integer> seen) {
    for (int what = 0; what < 9; what++) seen.add(x.count(what));
    for (int t = 0; t < x.count(0); t++) {
      seen.add(x.thread(t, 2) + 4 * x.thread(t, 3) + 16 * x.thread(t, 4));
      seen.add(x.thread(t, 6));
    }
  }

  private static void view(WhoseThread x, List<Integer> seen) {
    for (int what = 0; what < 9; what++) seen.add(x.count(what));
    seen.add(x.fault());
    for (int t = 0; t < x.count(0); t++) {
      for (int what = 0; what < 7; what++) seen.add(x.thread(t, what));
      seen.add(x.as(t, 0));
      seen.add(x.top(t));
      seen.add(x.takes(t));
      seen.add(x.loss(t));
      seen.add(x.lifts(t, 1));
      seen.add(x.tails(t));
      seen.add(x.cat(t, 0));
      seen.add(x.given(t, 5, 2));
    }
    for (int o = -1; o < x.count(1); o++) {
      seen.add(x.order(o, 0));
      seen.add(x.order(o, 1));
      seen.add(x.swapped(o));
    }
    for (int what = 0; what < 2; what++) {
      seen.add(x.doom(what));
      seen.add(x.mean(what));
      seen.add(x.fourth(what));
    }
    seen.add(x.tails(NONE));
    seen.add(x.whose(0));
  }
}
