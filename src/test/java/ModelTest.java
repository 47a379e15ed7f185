import java.util.ArrayDeque;
import java.util.ArrayList;
import java.util.Arrays;
import java.util.Deque;
import java.util.List;
import java.util.TreeSet;
import java.util.regex.Matcher;
import java.util.regex.Pattern;

/** Many runs of calls, each answered by a second, slow telling of the document, too. */
public final class ModelTest {
  static final int NONE = -1, UNKNOWN = -2, OUTSIDE = -3, NOT = -4, FULL = -5;

  /** What is told of a loom, and how it stands: copied whole wherever it might change. */
  static final class State {
    List<int[]> threads = new ArrayList<>();           // kind, length, colour
    List<int[]> orders = new ArrayList<>();            // thread, day
    boolean[][] over = new boolean[8][8];              // [a][b]: a lies over b
    boolean[][] knots = new boolean[8][8];
    char[] fate = "wwwwwwww".toCharArray();            // whole, cut, run out
    int[] cutDay = {-1, -1, -1, -1, -1, -1, -1, -1};
    int day, lost;

    State copy() {
      State s = new State();
      for (int[] t : threads) s.threads.add(t.clone());
      for (int[] o : orders) s.orders.add(o.clone());
      for (int i = 0; i < 8; i++) {
        s.over[i] = over[i].clone();
        s.knots[i] = knots[i].clone();
      }
      s.fate = fate.clone();
      s.cutDay = cutDay.clone();
      s.day = day;
      s.lost = lost;
      return s;
    }

    int n() { return threads.size(); }
    boolean whole(int t) { return fate[t] == 'w'; }
    boolean endless(int t) { return threads.get(t)[0] == 3; }

    int years(int t) {
      if (!whole(t) || endless(t)) return 0;
      return Math.max(0, threads.get(t)[1] - day) * (threads.get(t)[0] == 1 ? 2 : 1);
    }

    int top(int t) {
      for (int a = 0; a < n(); a++) if (whole(a) && over[a][t]) return top(a);
      return t;
    }

    TreeSet<Integer> takes(int t) {
      TreeSet<Integer> set = new TreeSet<>();
      if (whole(t) && !endless(top(t))) join(top(t), set);
      return set;
    }

    void join(int t, TreeSet<Integer> set) {
      if (!set.add(t)) return;
      for (int i = 0; i < n(); i++) if (whole(i) && knots[t][i]) join(i, set);
    }

    int loss(int t) {
      int sum = 0;
      for (int i : takes(t)) if (threads.get(i)[0] != 2) sum += years(i);
      return sum;
    }

    void cut(int t) {
      lost += loss(t);
      for (int i : takes(t)) {
        fate[i] = 'c';
        cutDay[i] = day;
      }
    }

    void endDay() {
      for (int[] o : orders) if (o[1] == day) cut(o[0]);
      day++;
      for (int i = 0; i < n(); i++) if (whole(i) && !endless(i) && threads.get(i)[1] <= day) fate[i] = 'r';
    }

    boolean above(int a, int b) {
      if (over[a][b]) return true;
      for (int i = 0; i < n(); i++) if (over[a][i] && above(i, b)) return true;
      return false;
    }

    State doomed() {
      State s = copy();
      while (s.day <= 99) s.endDay();
      return s;
    }
  }

  static int bits(Iterable<Integer> set) {
    int b = 0;
    for (int i : set) b += 1 << i;
    return b;
  }

  static final class Model {
    StringBuilder text = new StringBuilder();
    State told = new State(), now = new State();
    Deque<State> past = new ArrayDeque<>();
    State[] kept = new State[2];
    State read;
    int clauses;

    static final Pattern TOKEN = Pattern.compile("[a-z]+|[0-9]+|[^ ]", Pattern.DOTALL);
    static final List<String> KINDS = List.of("plain", "brave", "silk", "endless");

    int fault() {
      List<String> tokens = new ArrayList<>();
      List<Integer> places = new ArrayList<>();
      Matcher m = TOKEN.matcher(text);
      while (m.find()) {
        tokens.add(m.group());
        places.add(m.start());
      }
      places.add(text.length());
      tokens.add("");
      read = told.copy();
      clauses = 0;
      int at = 0;
      while (true) {
        String word = tokens.get(at);
        String rest = tail(word);
        if (rest == null) return places.get(at);
        at++;
        int[] numbers = new int[2];
        for (int i = 0; i < rest.length(); i++) {
          numbers[i] = value(tokens.get(at), rest.charAt(i), numbers, word);
          if (numbers[i] < 0) return places.get(at);
          at++;
        }
        perform(word, numbers[0], numbers[1]);
        clauses++;
        if (tokens.get(at).isEmpty()) return NONE;
        if (!tokens.get(at).equals(";") || clauses == 14) return places.get(at);
        at++;
      }
    }

    /** What must stand behind a word, a sign each; null if the word itself cannot stand. */
    String tail(String word) {
      if (KINDS.contains(word)) return read.n() == 8 ? null : "LC";
      switch (word) {
        case "loom": case "calm": case "free": return "";
        case "over": return "AB";
        case "knot": return "AB";
        case "cut": return read.orders.size() == 6 ? null : "AD";
        default: return null;
      }
    }

    int value(String token, char sort, int[] numbers, String word) {
      if (!token.matches("[0-9]{1,2}")) return -1;
      int v = Integer.parseInt(token);
      switch (sort) {
        case 'L': return v >= 1 && v <= 60 ? v : -1;
        case 'C': return v <= 3 ? v : -1;
        case 'D': return v;
        case 'A': return v < read.n() ? v : -1;
        default:
          if (v >= read.n() || v == numbers[0]) return -1;
          return word.equals("over") && read.above(v, numbers[0]) ? -1 : v;
      }
    }

    void perform(String word, int a, int b) {
      if (KINDS.contains(word)) read.threads.add(new int[] {KINDS.indexOf(word), a, b});
      else if (word.equals("loom")) read = new State();
      else if (word.equals("calm")) read.orders.clear();
      else if (word.equals("over")) read.over[a][b] = true;
      else if (word.equals("knot")) read.knots[a][b] = read.knots[b][a] = true;
      else if (word.equals("cut")) read.orders.add(new int[] {a, b});
      else {
        read.over = new boolean[8][8];
        read.knots = new boolean[8][8];
      }
    }

    int loom() {
      if (fault() != NONE) return NOT;
      text.setLength(0);
      told = read;
      now = told.copy();
      past.clear();
      kept = new State[2];
      return clauses;
    }

    int write(int letter) {
      if (letter < 0 || letter > 255) return OUTSIDE;
      if (text.length() == 160) return FULL;
      text.append((char) letter);
      return text.length();
    }

    int erase() {
      int had = text.length();
      text.setLength(0);
      return had;
    }

    boolean no(int t) { return t < 0 || t >= now.n(); }

    int thread(int t, int what) {
      if (no(t)) return UNKNOWN;
      if (what < 0 || what > 6) return OUTSIDE;
      if (what <= 2) return now.threads.get(t)[what];
      if (what == 3) return "wcr".indexOf(now.fate[t]);
      if (what == 6) return now.cutDay[t];
      TreeSet<Integer> set = new TreeSet<>();
      for (int i = 0; i < now.n(); i++) if (what == 4 ? now.over[i][t] : now.knots[i][t]) set.add(i);
      return bits(set);
    }

    int as(int t, int kind) {
      if (no(t)) return UNKNOWN;
      if (kind < 0 || kind > 4) return OUTSIDE;
      String[] are = {"01", "012", "013", "04"};
      return are[now.threads.get(t)[0]].indexOf('0' + kind) < 0 ? NOT : now.years(t);
    }

    int order(int o, int what) {
      if (o < 0 || o >= now.orders.size()) return UNKNOWN;
      return what < 0 || what > 1 ? OUTSIDE : now.orders.get(o)[what];
    }

    int top(int t) { return no(t) ? UNKNOWN : now.whole(t) ? now.top(t) : NOT; }

    void remember() {
      past.addLast(now.copy());
      if (past.size() > 8) past.removeFirst();
    }

    int cut(int t) {
      if (no(t)) return UNKNOWN;
      if (!now.whole(t)) return NOT;
      remember();
      int falls = now.takes(t).size();
      now.cut(t);
      return falls;
    }

    int put(int a, int b) {
      if (no(a) || no(b) || a == b) return UNKNOWN;
      if (!now.whole(a) || !now.whole(b) || now.over[a][b] || now.above(b, a)) return NOT;
      remember();
      now.over[a][b] = true;
      return Integer.bitCount(thread(b, 4));
    }

    int lift(int t) {
      if (no(t)) return UNKNOWN;
      int off = 0;
      for (boolean is : now.over[t]) if (is) off++;
      if (!now.whole(t) || off == 0) return NOT;
      remember();
      now.over[t] = new boolean[8];
      return off;
    }

    int knot(int a, int b, int is) {
      if (no(a) || no(b) || a == b) return UNKNOWN;
      if (is != 0 && is != 1) return OUTSIDE;
      if (!now.whole(a) || !now.whole(b)) return NOT;
      remember();
      int were = now.knots[a][b] ? 1 : 0;
      now.knots[a][b] = now.knots[b][a] = is == 1;
      return were;
    }

    int dye(int t, int colour) {
      if (no(t)) return UNKNOWN;
      if (colour < 0 || colour > 3) return OUTSIDE;
      if (!now.whole(t)) return NOT;
      remember();
      int was = now.threads.get(t)[2];
      now.threads.get(t)[2] = colour;
      return was;
    }

    int go(int n) {
      if (n < 1 || n > 99) return OUTSIDE;
      if (now.day + n > 999) return FULL;
      remember();
      int was = now.lost;
      for (int i = 0; i < n; i++) now.endDay();
      return now.lost - was;
    }

    int undo() {
      if (past.isEmpty()) return NOT;
      now = past.removeLast();
      return past.size();
    }

    int keep(int k) {
      if (k != 0 && k != 1) return UNKNOWN;
      kept[k] = now.copy();
      return now.day;
    }

    int back(int k) {
      if (k != 0 && k != 1) return UNKNOWN;
      if (kept[k] == null) return NOT;
      now = kept[k].copy();
      past.clear();
      return now.day;
    }

    int takes(int t) { return no(t) ? UNKNOWN : bits(now.takes(t)); }
    int loss(int t) { return no(t) ? UNKNOWN : now.loss(t); }

    int lifts(int t, int what) {
      if (no(t)) return UNKNOWN;
      if (what != 0 && what != 1) return OUTSIDE;
      if (!now.whole(t)) return NOT;
      int best = -1;
      for (int set = 0; set < 1 << now.n(); set++) {
        State s = now.copy();
        boolean may = (set >> t & 1) == 0;
        for (int i = 0; i < now.n(); i++) {
          if ((set >> i & 1) == 0) continue;
          may &= now.whole(i);
          s.over[i] = new boolean[8];
        }
        if (!may || s.top(t) != t) continue;
        if (best < 0 || Integer.bitCount(set) < Integer.bitCount(best)) best = set;
      }
      return what == 0 ? Integer.bitCount(best) : best;
    }

    int doom(int what) {
      if (what != 0 && what != 1) return OUTSIDE;
      State s = now.doomed();
      TreeSet<Integer> who = new TreeSet<>();
      for (int i = 0; i < now.n(); i++) if (now.whole(i) && s.fate[i] == 'c') who.add(i);
      return what == 0 ? s.lost - now.lost : bits(who);
    }

    int[] bestRow;
    int bestLoss;

    int swapped(int o) {
      if (o < -1 || o >= now.orders.size()) return UNKNOWN;
      List<Integer> days = new ArrayList<>();
      for (int[] each : now.orders) if (each[1] >= now.day) days.add(each[1]);
      days.sort(null);
      bestRow = null;
      permute(0, days, now.copy());
      return o == NONE ? bestLoss : bestRow[o];
    }

    /** Rows come in their order: each order in turn, lesser days first. */
    void permute(int o, List<Integer> days, State s) {
      if (o == s.orders.size()) {
        int loss = s.doomed().lost - s.lost;
        if (bestRow == null || loss < bestLoss) {
          bestLoss = loss;
          bestRow = new int[s.orders.size()];
          for (int i = 0; i < bestRow.length; i++) bestRow[i] = s.orders.get(i)[1];
        }
        return;
      }
      if (now.orders.get(o)[1] < now.day) {
        permute(o + 1, days, s);
        return;
      }
      for (int i = 0; i < days.size(); i++) {
        if (i > 0 && days.get(i).equals(days.get(i - 1))) continue;
        List<Integer> less = new ArrayList<>(days);
        s.orders.get(o)[1] = less.remove(i);
        permute(o + 1, less, s);
      }
    }

    int mostDays;
    int[] mostRow;

    int tails(int t) {
      if (t != NONE && no(t)) return UNKNOWN;
      mostRow = null;
      int[] row = new int[8];
      Arrays.fill(row, NONE);
      deal(0, row);
      return t == NONE ? mostDays : mostRow[t];
    }

    void deal(int t, int[] row) {
      if (t == now.n()) {
        int sum = 0;
        for (int i = 0; i < t; i++) if (row[i] != NONE) sum += now.threads.get(i)[1] - now.cutDay[i];
        if (mostRow == null || sum > mostDays || sum == mostDays && ahead(row, mostRow)) {
          mostDays = sum;
          mostRow = row.clone();
        }
        return;
      }
      for (int to = now.n() - 1; to >= 0; to--) {
        boolean taken = false;
        for (int i = 0; i < t; i++) taken |= row[i] == to;
        boolean has = now.fate[t] == 'c' && !now.endless(t);
        boolean can = now.whole(to) && !now.endless(to) && now.threads.get(to)[2] == now.threads.get(t)[2];
        if (taken || !has || !can) continue;
        row[t] = to;
        deal(t + 1, row);
      }
      row[t] = NONE;
      deal(t + 1, row);
    }

    static boolean ahead(int[] row, int[] other) {
      for (int i = 0; i < row.length; i++) if (row[i] != other[i]) return row[i] < other[i];
      return false;
    }

    int given(int t, int n, int m) {
      if (no(t)) return UNKNOWN;
      if (n < 1 || n > 99 || m < 0 || m > 99) return OUTSIDE;
      if (!now.whole(t)) return NOT;
      int sum = 0, most = -1, who = NONE;
      for (int i = 0; i < now.n(); i++) {
        if (i == t || !now.whole(i) || now.endless(i)) continue;
        State s = now.copy();
        int gives = 0;
        while (s.threads.get(i)[1] > now.day) {
          s.threads.get(i)[1]--;
          if (s.years(i) < m) break;
          gives++;
        }
        sum += gives;
        if (gives > most) {
          most = gives;
          who = i;
        }
      }
      return sum >= n ? who : NONE;
    }

    List<Integer> wholes() {
      List<Integer> list = new ArrayList<>();
      for (int i = 0; i < now.n(); i++) if (now.whole(i)) list.add(i);
      return list;
    }

    static int gcd(int a, int b) { return b == 0 ? a : gcd(b, a % b); }

    static int part(int above, int below, int part) {
      return (part == 0 ? above : below) / gcd(above, below);
    }

    int cat(int t, int part) {
      if (no(t)) return UNKNOWN;
      if (part != 0 && part != 1) return OUTSIDE;
      if (wholes().isEmpty()) return NOT;
      int hits = 0;
      for (int w : wholes()) if (now.takes(w).contains(t)) hits++;
      return part(hits, wholes().size(), part);
    }

    int mean(int part) {
      if (part != 0 && part != 1) return OUTSIDE;
      if (wholes().isEmpty()) return NOT;
      int sum = 0;
      for (int w : wholes()) sum += now.loss(w);
      return part(sum, wholes().size(), part);
    }

    int whose(int set) {
      if (set < 0 || set >= 1 << now.n()) return UNKNOWN;
      TreeSet<Integer> who = new TreeSet<>();
      for (int i = 0; i < now.n(); i++) if (bits(now.takes(i)) == set) who.add(i);
      return bits(who);
    }

    int fourth(int what) {
      if (what != 0 && what != 1) return OUTSIDE;
      int best = NONE;
      for (int w : wholes()) {
        if (now.takes(w).isEmpty()) continue;
        if (best == NONE || now.loss(w) < now.loss(best)) best = w;
      }
      return what == 0 || best == NONE ? best : now.loss(best);
    }

    int count(int what) {
      int knots = 0, over = 0;
      for (int i = 0; i < 8; i++) {
        for (int j = 0; j < 8; j++) {
          if (now.over[i][j]) over++;
          if (now.knots[i][j] && i < j) knots++;
        }
      }
      int[] all = {now.n(), now.orders.size(), now.day, bits(wholes()), now.lost, knots, over, past.size(), text.length()};
      return what < 0 || what > 8 ? OUTSIDE : all[what];
    }
  }

  // ---- runs

  static long seed;
  static int calls = 0, wrong = 0;
  static int[] seen = new int[40];
  static StringBuilder log;

  static int pick(int n) {
    seed = seed * 6364136223846793005L + 1442695040888963407L;
    return (int) ((seed >>> 33) % n);
  }

  static int number(int usual) {
    int[] wild = {-1, -2, 100, 255, 256, Integer.MIN_VALUE, Integer.MAX_VALUE};
    return pick(40) == 0 ? wild[pick(wild.length)] : pick(usual);
  }

  static void same(String call, int got, int want) {
    calls++;
    log.append(call).append(" -> ").append(want).append('\n');
    if (got == want) return;
    if (wrong++ < 3) System.out.println(log + "^ answered " + got);
  }

  static String clause(int threads) {
    int t = Math.max(1, threads);
    switch (pick(12)) {
      case 0: case 1: case 2: case 3:
        return Model.KINDS.get(pick(4)) + " " + (1 + pick(pick(2) == 0 ? 60 : 12)) + " " + pick(pick(2) == 0 ? 4 : 1);
      case 4: case 5: return "over " + pick(t) + " " + pick(t);
      case 6: case 7: return "knot " + pick(t) + " " + pick(t);
      case 8: case 9: return "cut " + pick(t) + " " + pick(pick(3) == 0 ? 100 : 15);
      case 10: return pick(4) == 0 ? "loom" : "cut " + pick(t) + "  " + pick(10);
      default: return pick(3) == 0 ? "calm" : pick(2) == 0 ? "free" : "knot " + pick(t) + " " + pick(t);
    }
  }

  static String someText(int threads) {
    StringBuilder text = new StringBuilder();
    int n = 1 + pick(pick(4) == 0 ? 16 : 9);
    for (int i = 0; i < n; i++) text.append(i == 0 ? "" : ";").append(clause(threads + i / 2));
    if (pick(4) == 0) {
      String signs = "; a9z0.\t" + (char) 0 + (char) 255;
      int at = pick(text.length());
      if (pick(2) == 0) text.deleteCharAt(at);
      else text.insert(at, signs.charAt(pick(signs.length())));
    }
    return text.toString();
  }

  /** Tells a text; the words at its fault are cut off, so that most texts are told in the end. */
  static void tell(WhoseThread x, Model m) {
    String text = someText(m.now.n());
    for (int tries = 0; tries < 3; tries++) {
      same("erase()", x.erase(), m.erase());
      for (int i = 0; i < text.length(); i++) same("write('" + text.charAt(i) + "')", x.write(text.charAt(i)), m.write(text.charAt(i)));
      int at = m.fault();
      same("fault()", x.fault(), at);
      if (at == NONE) break;
      int end = text.lastIndexOf(';', Math.min(at, text.length()) - 1);
      if (end < 0) break;
      same("loom()", x.loom(), m.loom());
      text = text.substring(0, end);
    }
    same("loom()", x.loom(), m.loom());
  }

  static void tell(WhoseThread x, Model m, String text) {
    for (int i = 0; i < text.length(); i++) same("write('" + text.charAt(i) + "')", x.write(text.charAt(i)), m.write(text.charAt(i)));
    same("loom()", x.loom(), m.loom());
  }

  /** A full loom of like threads, so that edges of rows are met and many rows are alike. */
  static void fill(WhoseThread x, Model m) {
    int n = 5 + pick(4), longest = 2 + pick(11);
    StringBuilder text = new StringBuilder("loom");
    for (int i = 0; i < n; i++) text.append(';').append(Model.KINDS.get(pick(10) == 0 ? 3 : pick(3))).append(1 + pick(longest)).append(' ').append(pick(1 + pick(2)));
    tell(x, m, text.toString());
    text.setLength(0);
    text.append("calm");
    for (int i = pick(5); i > 0; i--) {
      int a = pick(n - 1);
      text.append(";over").append(a + 1 + pick(n - 1 - a)).append(' ').append(a);
    }
    for (int i = pick(3); i > 0; i--) {
      int a = pick(n - 1);
      text.append(";knot").append(a).append(' ').append(a + 1);
    }
    for (int i = 3 + pick(4); i > 0; i--) text.append(";cut").append(pick(n)).append(' ').append(pick(longest));
    tell(x, m, text.toString());
    rows(x, m, NONE, NONE);
  }

  static void call(WhoseThread x, Model m) {
    int a = number(pick(5) == 0 ? 9 : Math.max(1, m.now.n())), b = number(pick(5) == 0 ? 9 : Math.max(1, m.now.n()));
    int w = number(8), s = number(2), c = number(4), o = number(7) - (pick(7) == 0 ? 1 : 0);
    int which = pick(28);
    seen[which]++;
    switch (which) {
      case 0: same("thread(" + a + ", " + w + ")", x.thread(a, w), m.thread(a, w)); break;
      case 1: same("as(" + a + ", " + w + ")", x.as(a, w), m.as(a, w)); break;
      case 2: same("order(" + o + ", " + s + ")", x.order(o, s), m.order(o, s)); break;
      case 3: same("top(" + a + ")", x.top(a), m.top(a)); break;
      case 4: same("cut(" + a + ")", x.cut(a), m.cut(a)); break;
      case 5: same("put(" + a + ", " + b + ")", x.put(a, b), m.put(a, b)); break;
      case 6: same("lift(" + a + ")", x.lift(a), m.lift(a)); break;
      case 7: same("knot(" + a + ", " + b + ", " + s + ")", x.knot(a, b, s), m.knot(a, b, s)); break;
      case 8: same("dye(" + a + ", " + c + ")", x.dye(a, c), m.dye(a, c)); break;
      case 9: {
        int n = number(pick(20) == 0 ? 100 : 5);
        same("go(" + n + ")", x.go(n), m.go(n));
        break;
      }
      case 10: case 26: same("undo()", x.undo(), m.undo()); break;
      case 11: same("keep(" + s + ")", x.keep(s), m.keep(s)); break;
      case 12: same("back(" + s + ")", x.back(s), m.back(s)); break;
      case 13: same("takes(" + a + ")", x.takes(a), m.takes(a)); break;
      case 14: same("loss(" + a + ")", x.loss(a), m.loss(a)); break;
      case 15: same("lifts(" + a + ", " + s + ")", x.lifts(a, s), m.lifts(a, s)); break;
      case 16: same("doom(" + s + ")", x.doom(s), m.doom(s)); break;
      case 17: rows(x, m, o, a); break;
      case 18: same("tails(" + a + ")", x.tails(a), m.tails(a)); break;
      case 19: {
        int n = number(pick(2) == 0 ? 100 : 20), least = number(pick(2) == 0 ? 100 : 20);
        same("given(" + a + ", " + n + ", " + least + ")", x.given(a, n, least), m.given(a, n, least));
        break;
      }
      case 20: same("cat(" + a + ", " + s + ")", x.cat(a, s), m.cat(a, s)); break;
      case 21: same("mean(" + s + ")", x.mean(s), m.mean(s)); break;
      case 22: {
        int set = pick(3) == 0 ? number(300) : m.takes(a) < 0 ? 0 : m.takes(a);
        same("whose(" + set + ")", x.whose(set), m.whose(set));
        break;
      }
      case 23: same("fourth(" + s + ")", x.fourth(s), m.fourth(s)); break;
      default: {
        int what = number(10);
        same("count(" + what + ")", x.count(what), m.count(what));
      }
    }
  }

  /** The dear searches, all of their rows at once, now and then. */
  static void rows(WhoseThread x, Model m, int o, int a) {
    same("swapped(" + o + ")", x.swapped(o), m.swapped(o));
    if (a != NONE && pick(3) != 0) return;
    same("swapped(NONE)", x.swapped(NONE), m.swapped(NONE));
    if (m.swapped(NONE) >= 0) {
      int[] row = m.bestRow.clone();
      for (int i = 0; i < row.length; i++) same("swapped(" + i + ")", x.swapped(i), row[i]);
    }
    same("tails(NONE)", x.tails(NONE), m.tails(NONE));
    int[] most = m.mostRow.clone();
    for (int i = 0; i < m.now.n(); i++) same("tails(" + i + ")", x.tails(i), most[i]);
  }

  static void whole(WhoseThread x, Model m) {
    for (int what = 0; what < 9; what++) same("count(" + what + ")", x.count(what), m.count(what));
    for (int t = 0; t < m.now.n(); t++) {
      for (int what = 0; what < 7; what++) same("thread(" + t + ", " + what + ")", x.thread(t, what), m.thread(t, what));
    }
  }

  public static void main(String[] args) {
    int runs = args.length > 0 ? Integer.parseInt(args[0]) : 4000;
    for (int run = 0; run < runs && wrong == 0; run++) {
      seed = run * 7919L + 17;
      log = new StringBuilder("run " + run + "\n");
      WhoseThread x = new WhoseThread();
      Model m = new Model();
      for (int texts = 1 + pick(3); texts > 0; texts--) {
        if (run % 2 == 0) fill(x, m);
        else tell(x, m);
        for (int i = 0; i < 50; i++) call(x, m);
        whole(x, m);
      }
    }
    System.out.println(calls + " calls in " + runs + " runs, " + wrong + " not as the model answers");
    if (wrong != 0) System.exit(1);
  }
}
