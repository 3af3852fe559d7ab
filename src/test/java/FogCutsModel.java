import java.math.BigInteger;
import java.util.ArrayList;
import java.util.Arrays;
import java.util.HashMap;
import java.util.List;
import java.util.Map;
import java.util.TreeSet;

/** Long runs of calls, each answered by the class and by a model that is written another way: they must agree. */
public final class FogCutsModel {
  private static final String HOURS = ".^>_<~";
  private static int wrong = 0;
  private static long seed = 1;

  /** All but the pad; plain copies stand in for every "as if". */
  private static final class State {
    int rows = 3, columns = 4, feed = 2, slack = 1;
    int[][] thick = new int[3][4];
    boolean[][] lamp = new boolean[3][4];
    List<Map<Integer, Integer>> shapes = new ArrayList<>();
    List<int[]> sights = new ArrayList<>();

    State() { for (int i = 0; i < 4; i++) shapes.add(new HashMap<>()); }

    State copy() {
      State s = new State();
      s.rows = rows; s.columns = columns; s.feed = feed; s.slack = slack;
      s.thick = new int[rows][]; s.lamp = new boolean[rows][];
      for (int r = 0; r < rows; r++) { s.thick[r] = thick[r].clone(); s.lamp[r] = lamp[r].clone(); }
      for (int i = 0; i < 4; i++) s.shapes.set(i, new HashMap<>(shapes.get(i)));
      s.sights = new ArrayList<>(sights);
      return s;
    }
    int cells() { return rows * columns; }
    int t(int cell) { return thick[cell / columns][cell % columns]; }
    void t(int cell, int v) { thick[cell / columns][cell % columns] = v; }
    boolean lit(int cell) { return lamp[cell / columns][cell % columns]; }
    void lit(int cell, boolean v) { lamp[cell / columns][cell % columns] = v; }
    boolean in(int r, int c) { return r >= 0 && r < rows && c >= 0 && c < columns; }
    boolean litAt(int r, int c) { return in(r, c) && lamp[r][c]; }

    void hour(char sign) {
      int[][] a = new int[rows][columns];
      for (int r = 0; r < rows; r++) for (int c = 0; c < columns; c++) {
        int take = litAt(r, c) ? 2 : litAt(r - 1, c) || litAt(r + 1, c) || litAt(r, c - 1) || litAt(r, c + 1) ? 1 : 0;
        a[r][c] = thick[r][c] < take ? 0 : thick[r][c] - take;
      }
      int[][] b = new int[rows][columns];
      int dr = sign == '^' ? -1 : sign == '_' ? 1 : 0, dc = sign == '<' ? -1 : sign == '>' ? 1 : 0;
      boolean wind = dr != 0 || dc != 0;
      for (int r = 0; r < rows; r++) for (int c = 0; c < columns; c++) {
        b[r][c] = a[r][c];
        if (wind && (in(r + dr, c + dc) ? a[r + dr][c + dc] < a[r][c] : a[r][c] > 0)) b[r][c]--;
        if (wind && in(r - dr, c - dc) && a[r - dr][c - dc] > a[r][c]) b[r][c]++;
        if (sign == '~' && c == 0) b[r][c] = Math.min(9, b[r][c] + feed);
      }
      thick = b;
    }
    boolean stands(int shape) {
      for (Map.Entry<Integer, Integer> e : shapes.get(shape).entrySet())
        if (Math.abs(t(e.getKey()) - e.getValue()) > slack) return false;
      return true;
    }
    boolean wanted(int cell) {
      for (Map<Integer, Integer> m : shapes) if (m.containsKey(cell)) return true;
      return false;
    }
    boolean sightsHold() {
      for (int[] s : sights) if (t(s[0]) != s[1]) return false;
      return true;
    }
    List<Integer> beside(int cell) {
      List<Integer> out = new ArrayList<>();
      for (int other = 0; other < cells(); other++) {
        int d = Math.abs(other / columns - cell / columns) + Math.abs(other % columns - cell % columns);
        if (d == 1) out.add(other);
      }
      return out;
    }
    int sum() { int n = 0; for (int[] row : thick) for (int v : row) n += v; return n; }
    int most() { int n = 0; for (int[] row : thick) for (int v : row) n = Math.max(n, v); return n; }
  }

  private static final class Model {
    State s = new State();
    State[] images = new State[2];
    String pad = "";

    String letters() { return "[a-" + (char) ('a' + s.cells() - 1) + "]"; }
    String night() { return "(?:[.^>_<~]|" + letters() + "[0-9+*])*"; }

    int fault() {
      for (int n = 1; n <= pad.length(); n++)
        if (!pad.substring(0, n).matches(night() + letters() + "?")) return n - 1;
      return pad.matches(night()) ? -6 : pad.length();
    }
    boolean hoursAlone() { return pad.matches("[.^>_<~]*"); }

    /** Why the next part can not be; 0: it is done. */
    int part(State on, String p) {
      if (p.length() == 1) { on.hour(p.charAt(0)); return 0; }
      int cell = p.charAt(0) - 'a';
      char c = p.charAt(1);
      if (c == '*') { on.lit(cell, !on.lit(cell)); return 0; }
      if (c == '+') { if (on.t(cell) == 9) return 2; on.t(cell, on.t(cell) + 1); return 0; }
      if (on.t(cell) <= c - '0') return 1;
      on.t(cell, c - '0');
      return 0;
    }
    List<String> parts() {
      List<String> out = new ArrayList<>();
      for (int i = 0; i < pad.length();) {
        int n = HOURS.indexOf(pad.charAt(i)) >= 0 ? 1 : 2;
        out.add(pad.substring(i, i + n));
        i += n;
      }
      return out;
    }
    /** {the part that can not be, why, the first part behind which the shape fell}. */
    int[] play(State on, int shape) {
      int[] out = {-6, -6, -6};
      List<String> parts = parts();
      for (int i = 0; i < parts.size(); i++) {
        int why = part(on, parts.get(i));
        if (why != 0) { out[0] = i; out[1] = why; return out; }
        if (shape >= 0 && out[2] == -6 && !on.stands(shape)) out[2] = i;
      }
      return out;
    }
    void hours(State on) { for (char c : pad.toCharArray()) on.hour(c); }
    boolean bad(int n, int least, int most) { return n < least || n > most; }
    boolean noShape(int shape) { return bad(shape, 0, 3) || s.shapes.get(shape).isEmpty(); }
    boolean noCell(int cell) { return bad(cell, 0, s.cells() - 1); }

    long answer(String call, int a, int b, int c, int d) {
      switch (call) {
        case "bank": {
          if (bad(a, 1, 4) || bad(b, 1, 6)) return -2;
          s = new State(); s.rows = a; s.columns = b; s.thick = new int[a][b]; s.lamp = new boolean[a][b];
          return a * b;
        }
        case "cell": {
          if (noCell(a)) return -1;
          if (bad(b, 0, 1) || bad(c, 0, b == 0 ? 9 : 1)) return -2;
          long was = b == 0 ? s.t(a) : s.lit(a) ? 1 : 0;
          if (b == 0) s.t(a, c); else s.lit(a, c == 1);
          return was;
        }
        case "set": {
          if (bad(a, 0, 1) || a == 0 && bad(b, 1, 5) || a == 1 && bad(b, 0, 3)) return -2;
          long was = a == 0 ? s.feed : s.slack;
          if (a == 0) s.feed = b; else s.slack = b;
          return was;
        }
        case "shape": {
          if (bad(a, 0, 3) || noCell(b)) return -1;
          if (bad(c, -1, 9)) return -2;
          if (c < 0) s.shapes.get(a).remove(b); else s.shapes.get(a).put(b, c);
          return s.shapes.get(a).size();
        }
        case "say": {
          if (bad(a, 33, 126)) return -2;
          if (pad.length() == 60) return -4;
          pad += (char) a;
          return pad.length();
        }
        case "wipe": { int n = pad.length(); pad = ""; return n; }
        case "fault": return fault();
        case "judge": {
          if (bad(a, 0, 1)) return -2;
          return fault() != -6 ? -5 : play(s.copy(), -1)[a];
        }
        case "done": {
          State on = s.copy();
          if (fault() != -6 || play(on, -1)[0] != -6) return -5;
          int n = parts().size();
          s = on; pad = "";
          return n;
        }
        case "state": return noCell(a) ? -1 : bad(b, 0, 1) ? -2 : b == 0 ? s.t(a) : s.lit(a) ? 1 : 0;
        case "behind": {
          if (noCell(a)) return -1;
          if (bad(b, 0, 1)) return -2;
          State on = s.copy();
          if (fault() != -6 || play(on, -1)[0] != -6) return -5;
          return b == 0 ? on.t(a) : on.lit(a) ? 1 : 0;
        }
        case "stands": return noShape(a) ? -1 : s.stands(a) ? 1 : 0;
        case "lost": {
          if (noShape(a)) return -1;
          if (fault() != -6) return -5;
          int[] out = play(s.copy(), a);
          return out[0] != -6 ? -5 : out[2];
        }
        case "through": {
          int bits = 0;
          for (int r = 0; r < s.rows; r++) if (Arrays.equals(s.thick[r], new int[s.columns])) bits += 1 << r;
          return bits;
        }
        case "carved": return noShape(a) ? -1 : acts(a, 0, 0);
        case "nowThen": {
          if (noShape(a)) return -1;
          if (bad(b, 0, 1)) return -2;
          if (!hoursAlone()) return -5;
          if (s.shapes.get(a).size() > 3) return -4;
          return best(cutChoices(a), b);
        }
        case "dark": {
          if (noShape(a)) return -1;
          if (bad(b, 0, 1)) return -2;
          if (!hoursAlone()) return -5;
          if (Integer.bitCount(lamps()) > 8) return -4;
          return best(darkChoices(a), b);
        }
        case "moved": return noShape(a) ? -1 : bad(b, 0, 1) ? -2 : moved(a)[b];
        case "apart": {
          List<Integer> twos = new ArrayList<>();
          for (int two = 0; two < 40; two++) if (two / 10 < two % 10 && two % 10 < 4 && never(two / 10, two % 10)) twos.add(two);
          return a == -1 ? twos.size() : bad(a, 0, twos.size() - 1) ? -6 : twos.get(a);
        }
        case "walk": {
          if (noCell(a) || noCell(b)) return -1;
          return bad(c, 0, 2) ? -2 : walk(a, b)[c];
        }
        case "wins": return bad(a, 0, (1 << s.cells()) - 1) ? -2 : crewWins(pile(a)) ? 0 : 1;
        case "cut": {
          if (bad(a, 0, (1 << s.cells()) - 1)) return -2;
          for (int cell = 0; cell < s.cells(); cell++) for (int v = 0; v < s.t(cell) && (a >> cell) % 2 == 1; v++) {
            int[] next = pile(a & ~(1 << cell));
            next[v]++;
            if (!crewWins(next)) return 10 * cell + v;
          }
          return -6;
        }
        case "seen": {
          if (noCell(a)) return -1;
          if (bad(b, 0, 9)) return -2;
          if (s.sights.size() == 8) return -4;
          s.sights.add(new int[] {a, b});
          return s.sights.size();
        }
        case "forget": { int n = s.sights.size(); s.sights.clear(); return n; }
        case "what": {
          if (!hoursAlone()) return -5;
          List<Integer> all = fits();
          return a == -1 ? all.size() : bad(a, 0, all.size() - 1) ? -6 : all.get(a);
        }
        case "where": {
          if (!hoursAlone()) return -5;
          int bits = 0;
          for (int f : fits()) bits |= 1 << (f / 10);
          return bits;
        }
        case "chance": {
          if (noShape(a)) return -1000000000000000001L;
          if (bad(b, 0, 10) || bad(c, 0, 8) || bad(d, 0, 1)) return -1000000000000000002L;
          BigInteger up = tenths(s.copy(), a, b, c), low = BigInteger.TEN.pow(c), g = up.gcd(low);
          return (d == 0 ? up : low).divide(g).longValueExact();
        }
        case "year": {
          if (bad(a, 0, 9999) || bad(b, 1, 99) || bad(c, 0, 2)) return -2;
          State on = s.copy();
          long x = a;
          int fell = 0, most = 0;
          for (int i = 0; i < b; i++) {
            x = (75 * x + 74) % 65537;
            on.hour("^>_<~...".charAt((int) (x % 8)));
            boolean all = true;
            for (int k = 0; k < 4; k++) all &= on.stands(k);
            if (!all) fell++;
            most = Math.max(most, on.most());
          }
          return c == 0 ? on.sum() : c == 1 ? fell : most;
        }
        case "image": { if (bad(a, 0, 1)) return -2; images[a] = s.copy(); return 1; }
        case "restore": {
          if (bad(a, 0, 1)) return -2;
          if (images[a] == null) return -3;
          s = images[a].copy();
          return 1;
        }
        case "told": {
          int[] plain = {pad.length(), s.rows, s.columns, s.feed, s.slack, lamps(), s.sights.size(), s.sum()};
          if (a >= 0 && a < 8) return plain[a];
          if (a < 100 || a >= 500 || noCell(a % 100)) return -2;
          return s.shapes.get(a / 100 - 1).getOrDefault(a % 100, -1);
        }
        default: throw new IllegalArgumentException(call);
      }
    }

    int lamps() { int bits = 0; for (int c = 0; c < s.cells(); c++) if (s.lit(c)) bits |= 1 << c; return bits; }

    /** The fewest steps from a number, by cuts and by single additions, to one near enough. */
    int actsFor(int has, int number) {
      int[] far = new int[10];
      Arrays.fill(far, 99);
      far[has] = 0;
      for (int round = 0; round < 20; round++) for (int v = 0; v < 10; v++) {
        for (int w = 0; w < v; w++) far[w] = Math.min(far[w], far[v] + 1);
        if (v < 9) far[v + 1] = Math.min(far[v + 1], far[v] + 1);
      }
      int best = 99;
      for (int v = 0; v < 10; v++) if (Math.abs(v - number) <= s.slack) best = Math.min(best, far[v]);
      return best;
    }
    int acts(int shape, int down, int on) {
      int sum = 0;
      for (Map.Entry<Integer, Integer> e : s.shapes.get(shape).entrySet()) {
        int r = e.getKey() / s.columns + down, c = e.getKey() % s.columns + on;
        if (!s.in(r, c)) return -1;
        sum += actsFor(s.thick[r][c], e.getValue());
      }
      return sum;
    }
    int[] moved(int shape) {
      int[] best = {Integer.MAX_VALUE, 0};
      for (int code = 700; code >= 0; code--) {
        int down = code / 100 - 3, on = code % 100 - 5;
        if (down > 3 || on > 5) continue;
        int n = acts(shape, down, on);
        if (n >= 0 && n <= best[0]) { best[0] = n; best[1] = code; }
      }
      return best;
    }
    /** All sets of cells that do, each as (how many, bits) in one number. */
    TreeSet<Long> cutChoices(int shape) {
      TreeSet<Long> out = new TreeSet<>();
      cutFrom(new ArrayList<>(s.shapes.get(shape).keySet()), 0, s.copy(), 0, shape, out);
      return out;
    }
    void cutFrom(List<Integer> cells, int i, State on, int bits, int shape, TreeSet<Long> out) {
      if (i == cells.size()) {
        State end = on.copy();
        hours(end);
        if (end.stands(shape)) out.add((long) Integer.bitCount(bits) << 32 | bits);
        return;
      }
      int cell = cells.get(i), has = on.t(cell);
      cutFrom(cells, i + 1, on, bits, shape, out);
      for (int v = 0; v < has; v++) { on.t(cell, v); cutFrom(cells, i + 1, on, bits | 1 << cell, shape, out); }
      on.t(cell, has);
    }
    TreeSet<Long> darkChoices(int shape) {
      TreeSet<Long> out = new TreeSet<>();
      int all = lamps();
      for (int off = all; ; off = (off - 1) & all) {
        State end = s.copy();
        for (int c = 0; c < s.cells(); c++) if ((off >> c) % 2 == 1) end.lit(c, false);
        hours(end);
        if (end.stands(shape)) out.add((long) Integer.bitCount(off) << 32 | off);
        if (off == 0) return out;
      }
    }
    long best(TreeSet<Long> choices, int which) {
      return choices.isEmpty() ? -6 : which == 0 ? choices.first() >> 32 : choices.first() & 0xffffffffL;
    }
    boolean never(int one, int other) {
      for (int cell : s.shapes.get(one).keySet()) {
        Integer v = s.shapes.get(other).get(cell);
        boolean some = v == null;
        for (int t = -20; t < 30 && !some; t++)
          some = Math.abs(t - v) <= s.slack && Math.abs(t - s.shapes.get(one).get(cell)) <= s.slack;
        if (!some) return true;
      }
      return false;
    }
    int[] bestWay;
    int[] walk(int from, int to) {
      bestWay = new int[] {99, 99, -6};
      search(from, to, 0, 0, -6, 0);
      return bestWay;
    }
    void search(int at, int to, int seen, int spoilt, int first, int steps) {
      int cost = spoilt + (s.wanted(at) ? 1 : 0);
      if (cost > bestWay[0] || cost == bestWay[0] && steps > bestWay[1]) return;
      if (at == to) {
        boolean less = cost < bestWay[0] || steps < bestWay[1] || first < bestWay[2];
        if (less) bestWay = new int[] {cost, steps, first};
        return;
      }
      for (int next : s.beside(at)) if ((seen >> next & 1) == 0)
        search(next, to, seen | 1 << at, cost, first == -6 ? next : first, steps + 1);
    }
    /** How many cells of the set have each number. */
    int[] pile(int set) {
      int[] out = new int[10];
      for (int c = 0; c < s.cells(); c++) if ((set >> c) % 2 == 1) out[s.t(c)]++;
      return out;
    }
    static final Map<Long, Boolean> KNOWN = new HashMap<>();
    boolean crewWins(int[] pile) {
      long key = 0;
      for (int v = 1; v < 10; v++) key = key * 25 + pile[v];
      Boolean known = KNOWN.get(key);
      if (known != null) return known;
      boolean wins = false;
      for (int v = 9; v > 0 && !wins; v--) for (int w = 0; w < v && pile[v] > 0 && !wins; w++) {
        pile[v]--; pile[w]++;
        wins = !crewWins(pile);
        pile[v]++; pile[w]--;
      }
      KNOWN.put(key, wins);
      return wins;
    }
    List<Integer> fits() {
      List<Integer> out = new ArrayList<>();
      for (int code = 0; code < 10 * s.cells(); code++) if (code % 10 < s.t(code / 10)) {
        State on = s.copy();
        on.t(code / 10, code % 10);
        hours(on);
        if (on.sightsHold()) out.add(code);
      }
      return out;
    }
    BigInteger tenths(State on, int shape, int t, int m) {
      if (m == 0) return on.stands(shape) ? BigInteger.ONE : BigInteger.ZERO;
      State windy = on.copy(), still = on.copy();
      windy.hour('>');
      still.hour('.');
      return tenths(windy, shape, t, m - 1).multiply(BigInteger.valueOf(t))
          .add(tenths(still, shape, t, m - 1).multiply(BigInteger.valueOf(10 - t)));
    }
  }

  private static long ask(FogCuts x, String call, int a, int b, int c, int d) {
    switch (call) {
      case "bank": return x.bank(a, b);
      case "cell": return x.cell(a, b, c);
      case "set": return x.set(a, b);
      case "shape": return x.shape(a, b, c);
      case "say": return x.say(a);
      case "wipe": return x.wipe();
      case "fault": return x.fault();
      case "judge": return x.judge(a);
      case "done": return x.done();
      case "state": return x.state(a, b);
      case "behind": return x.behind(a, b);
      case "stands": return x.stands(a);
      case "lost": return x.lost(a);
      case "through": return x.through();
      case "carved": return x.carved(a);
      case "nowThen": return x.nowThen(a, b);
      case "dark": return x.dark(a, b);
      case "moved": return x.moved(a, b);
      case "apart": return x.apart(a);
      case "walk": return x.walk(a, b, c);
      case "wins": return x.wins(a);
      case "cut": return x.cut(a);
      case "seen": return x.seen(a, b);
      case "forget": return x.forget();
      case "what": return x.what(a);
      case "where": return x.where();
      case "chance": return x.chance(a, b, c, d);
      case "year": return x.year(a, b, c);
      case "image": return x.image(a);
      case "restore": return x.restore(a);
      case "told": return x.told(a);
      default: throw new IllegalArgumentException(call);
    }
  }

  private static int draw(int below) {
    seed = seed * 6364136223846793005L + 1442695040888963407L;
    return (int) ((seed >>> 33) % below);
  }
  private static int among(int... values) { return values[draw(values.length)]; }

  private static final Map<String, Integer> ANSWERED = new HashMap<>();
  private static FogCuts x;
  private static Model m;
  private static int calls;
  private static final StringBuilder STORY = new StringBuilder();

  private static void both(String call, int a, int b, int c, int d) {
    if (calls >= 512) return;
    calls++;
    long want = m.answer(call, a, b, c, d), got = ask(x, call, a, b, c, d);
    STORY.append(call).append(" ").append(a).append(" ").append(b).append(" ").append(c).append(" ").append(d)
        .append(" -> ").append(got).append("\n");
    if (want >= 0) ANSWERED.merge(call, 1, Integer::sum);
    if (want != got) {
      wrong++;
      if (wrong < 4) System.out.println(STORY + "due is " + want);
    }
  }
  private static void both(String call, int a, int b) { both(call, a, b, 0, 0); }
  private static void both(String call, int a) { both(call, a, 0, 0, 0); }
  private static void both(String call) { both(call, 0, 0, 0, 0); }

  private static void text(String night) {
    both("wipe");
    for (char c : night.toCharArray()) both("say", c);
  }
  private static String hours(int most) {
    StringBuilder out = new StringBuilder();
    for (int n = draw(most + 1); n > 0; n--) out.append(HOURS.charAt(draw(6)));
    return out.toString();
  }
  private static String acts(int most) {
    StringBuilder out = new StringBuilder();
    int cells = m.s.cells();
    for (int n = draw(most + 1); n > 0; n--) {
      int kind = draw(5), cell = draw(draw(9) == 0 ? 25 : cells);
      if (kind == 0) out.append(HOURS.charAt(draw(6)));
      else if (kind == 1) out.append((char) ('a' + cell)).append('*');
      else if (kind == 2) out.append((char) ('a' + cell)).append('+');
      else if (kind == 3 && cell < cells) out.append((char) ('a' + cell)).append((char) ('0' + draw(1 + m.s.t(cell))));
      else if (kind == 4 && draw(6) == 0) out.append((char) (33 + draw(94)));
    }
    return out.toString();
  }

  private static void fog() {
    if (draw(4) > 0) both("bank", 1 + draw(4), 1 + draw(6));
    int cells = m.s.cells(), thickest = among(2, 3, 9, 9);
    for (int n = draw(2 * cells + 1); n > 0; n--) both("cell", draw(cells), 0, draw(thickest + 1), 0);
    for (int n = draw(5); n > 0; n--) both("cell", draw(cells), 1, among(1, 1, 1, 0), 0);
    both("set", 0, 1 + draw(5));
    both("set", 1, draw(4));
  }
  /** Shapes near what is, or near what will be, so that they stand now and then. */
  private static void shapes() {
    int cells = m.s.cells();
    for (int n = draw(9); n > 0; n--) {
      int cell = draw(cells);
      int near = m.s.t(cell) + among(-3, -2, -1, -1, 0, 0, 0, 1, 2, 4);
      both("shape", draw(4), cell, among(Math.max(0, Math.min(9, near)), Math.max(0, Math.min(9, near)), draw(10), -1), 0);
    }
  }
  private static void questions() {
    for (int k = 0; k < 4; k++) {
      both("stands", k);
      both("lost", k);
      both("carved", k);
      both("nowThen", k, draw(2));
      both("nowThen", k, draw(2));
      both("dark", k, draw(2));
      both("moved", k, 0);
      both("moved", k, 1);
      int t = draw(11), hours = draw(9);
      both("chance", k, t, hours, 0);
      both("chance", k, t, hours, 1);
    }
    int cells = m.s.cells();
    for (int what = 0; what < 3; what++) {
      both("walk", draw(cells), draw(cells), what, 0);
      both("year", draw(10000), 1 + draw(99), what, 0);
    }
    int set = draw(1 << cells);
    both("wins", set);
    both("cut", set);
    both("through");
    both("apart", -1);
    both("apart", draw(3));
    both("what", -1);
    both("what", draw(4));
    both("where");
    both("told", 100 * draw(6) + draw(cells + 2));
    for (int what = 0; what < 8; what++) both("told", what);
  }
  private static int edge() { return among(-2147483648, -7, -2, -1, 0, 1, 2, 3, 4, 5, 6, 8, 9, 10, 11, 23, 24, 99, 100, 2147483647); }
  private static final String[] ALL = {"bank", "cell", "set", "shape", "say", "wipe", "fault", "judge", "done", "state",
      "behind", "stands", "lost", "through", "carved", "nowThen", "dark", "moved", "apart", "walk", "wins", "cut",
      "seen", "forget", "what", "where", "chance", "year", "image", "restore", "told"};

  private static void run() {
    x = new FogCuts();
    m = new Model();
    calls = 0;
    STORY.setLength(0);
    while (calls < 500) {
      switch (draw(7)) {
        case 0: fog(); break;
        case 1: shapes(); break;
        case 2: text(hours(among(3, 5, 12))); questions(); break;
        case 3:
          text(acts(among(4, 10, 40)));
          both("fault");
          both("judge", 0);
          both("judge", 1);
          for (int n = 0; n < 4; n++) both("behind", draw(m.s.cells()), draw(2));
          questions();
          both("done");
          for (int n = 0; n < 3; n++) both("state", draw(m.s.cells()), draw(2));
          break;
        case 4: {
          int cell = draw(m.s.cells());
          both(draw(3) == 0 ? "forget" : "seen", cell, Math.max(0, m.s.t(cell) - draw(2)), 0, 0);
          break;
        }
        case 5: both(among(0, 1) == 0 ? "image" : "restore", draw(2)); break;
        default:
          for (int n = draw(12); n > 0; n--) {
            String call = ALL[draw(ALL.length)];
            if (call.equals("bank") && draw(4) > 0) continue;
            both(call, edge(), edge(), edge(), edge());
          }
      }
    }
  }

  public static void main(String[] args) {
    for (int i = 0; i < 400 && wrong == 0; i++) run();
    for (String call : ALL) {
      if (ANSWERED.getOrDefault(call, 0) < 50) { wrong++; System.out.println("hardly ever answered: " + call); }
    }
    System.out.println(wrong == 0 ? "the class and the model agree" : wrong + " answers are not as due");
    if (wrong != 0) System.exit(1);
  }
}
