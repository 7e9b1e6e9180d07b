import java.util.ArrayDeque;
import java.util.ArrayList;
import java.util.Arrays;
import java.util.List;
import java.util.NoSuchElementException;

/**
 * The document once more, written as plainly as can be and unlike the program (texts by patterns,
 * sets by trying them all out on whole copies), so that random runs can be held against it.
 */
public final class PlainModel {
  private static final class State implements Cloneable {
    List<int[]> boats = new ArrayList<>();   // x y dx dy hull chum
    List<int[]> gulls = new ArrayList<>();   // boat hull pace hunger x y state letter
    List<int[]> letters = new ArrayList<>(); // boat place who
    int now;
    State copy() {
      State s = new State();
      for (int[] b : boats) s.boats.add(b.clone());
      for (int[] g : gulls) s.gulls.add(g.clone());
      for (int[] l : letters) s.letters.add(l.clone());
      s.now = now;
      return s;
    }
  }

  private String text = "";
  private String theRule = "";
  private State st = new State();
  private int wind;
  private int storm;
  private final ArrayDeque<State> undos = new ArrayDeque<>();
  private final State[] kept = new State[2];
  private List<Integer> told = new ArrayList<>();
  private int[] word;
  private int[] wordDraws;
  private final List<int[]> events = new ArrayList<>(); // gull, boat (-1: died), letter

  // ---- texts

  private static final String NUM = "(0?[0-9]|1[0-5])";
  private static final String BOAT = NUM + "," + NUM + "(-|n|e|s|w|ne|nw|se|sw)[0-5]";
  private static final String ACT = "(h[1-9]?|w[a-f]|s[0-9][0-9-]|p[a-f][0-5]|c[a-f]|f[0-9]|o[0-9])";

  private interface Judge { boolean good(String s); }

  private static final Judge RULE = new Judge() {
    public boolean good(String s) { return isExpr(s, 0); }
  };

  private static Judge lines(final String line, final int room) {
    return new Judge() {
      public boolean good(String s) {
        return room > 0 && s.matches(line + "(;" + line + "){0," + (room - 1) + "}");
      }
    };
  }

  /** 0 if good, else -1 - p, p being how many signs some good text can begin with. */
  private static int judge(String s, int limit, Judge judge, String... ends) {
    if (s.isEmpty() || s.length() <= limit && judge.good(s)) return 0;
    for (int p = 0; p < s.length() && p < limit; p++) {
      // a ; may stand behind a last line too: then it is the line behind it that has no room
      boolean viable = judge != RULE && s.charAt(p) == ';' && judge.good(s.substring(0, p));
      for (String e : ends) viable |= judge.good(s.substring(0, p + 1) + e);
      if (!viable) return -1 - p;
    }
    return -1 - Math.min(s.length(), limit);
  }

  private static int split(String s, String signs, boolean last) {
    int deep = 0;
    int at = -1;
    for (int i = 0; i < s.length(); i++) {
      char c = s.charAt(i);
      if (c == '(') deep++;
      if (c == ')') deep--;
      boolean ahead = i == 0 || "+-*/<>=(".indexOf(s.charAt(i - 1)) >= 0;
      if (deep == 0 && signs.indexOf(c) >= 0 && !(c == '-' && ahead)) {
        at = i;
        if (!last) return at;
      }
    }
    return at;
  }

  private static boolean isExpr(String s, int deep) {
    int at = split(s, "<>=", false);
    if (at >= 0) return isSum(s.substring(0, at), deep) && isSum(s.substring(at + 1), deep);
    return isSum(s, deep);
  }

  private static boolean isSum(String s, int deep) {
    int at = split(s, "+-", true);
    if (at >= 0) return isSum(s.substring(0, at), deep) && isProduct(s.substring(at + 1), deep);
    return isProduct(s, deep);
  }

  private static boolean isProduct(String s, int deep) {
    int at = split(s, "*/", true);
    if (at >= 0) return isProduct(s.substring(0, at), deep) && isFactor(s.substring(at + 1), deep);
    return isFactor(s, deep);
  }

  private static boolean isFactor(String s, int deep) {
    while (s.startsWith("-")) s = s.substring(1);
    if (s.matches("[0-9]{1,3}|[phdwsgl]")) return true;
    return s.length() > 2 && s.startsWith("(") && closes(s) == s.length() - 1 && deep < 4
        && isExpr(s.substring(1, s.length() - 1), deep + 1);
  }

  private static int closes(String s) {
    int deep = 0;
    for (int i = 0; i < s.length(); i++) {
      if (s.charAt(i) == '(') deep++;
      if (s.charAt(i) == ')' && --deep == 0) return i;
    }
    return -1;
  }

  private static int eval(String s, int[] v) {
    int at = split(s, "<>=", false);
    if (at >= 0) {
      int a = eval(s.substring(0, at), v);
      int b = eval(s.substring(at + 1), v);
      char c = s.charAt(at);
      return (c == '<' ? a < b : c == '>' ? a > b : a == b) ? 1 : 0;
    }
    at = split(s, "+-", true);
    if (at >= 0) {
      int a = eval(s.substring(0, at), v);
      int b = eval(s.substring(at + 1), v);
      return s.charAt(at) == '+' ? a + b : a - b;
    }
    at = split(s, "*/", true);
    if (at >= 0) {
      int a = eval(s.substring(0, at), v);
      int b = eval(s.substring(at + 1), v);
      return s.charAt(at) == '*' ? a * b : b == 0 ? 0 : a / b;
    }
    if (s.startsWith("-")) return -eval(s.substring(1), v);
    if (s.startsWith("(")) return eval(s.substring(1, s.length() - 1), v);
    int thing = "phdwsgl".indexOf(s.charAt(0));
    return thing >= 0 ? v[thing] : Integer.parseInt(s);
  }

  private String takeText() {
    String s = text;
    text = "";
    return s;
  }

  public int sign(int v) {
    if (text.length() + 4 > 80) return -1;
    for (int i = 3; i >= 0; i--) text += (char) (v >> 8 * i & 255);
    return text.length();
  }

  public boolean end(int n) {
    if (n < 0 || n > text.length()) return false;
    text = text.substring(0, n);
    return true;
  }

  public int fleet() {
    String s = takeText();
    int bad = judge(s, 76, lines(BOAT, 6 - st.boats.size()), "", "0", "-0", "0-0", ",0-0", "0,0-0");
    if (bad != 0 || s.isEmpty()) return bad;
    String[] parts = s.split(";");
    for (String part : parts) {
      String[] xy = part.replaceAll("[-nesw].*", "").split(",");
      String course = part.replaceAll("[0-9,]", "");
      int dx = course.contains("e") ? 1 : course.contains("w") ? -1 : 0;
      int dy = course.contains("s") ? 1 : course.contains("n") ? -1 : 0;
      int hull = part.charAt(part.length() - 1) - '0';
      st.boats.add(new int[] {Integer.parseInt(xy[0]), Integer.parseInt(xy[1]), dx, dy, hull, 0});
    }
    undos.clear();
    return parts.length;
  }

  public int gulls() {
    String s = takeText();
    int n = st.boats.size();
    String line = n == 0 ? "[!&&[^!]]" : "[a-" + (char) ('a' + n - 1) + "][1-9]";
    int bad = judge(s, 76, lines(line, 8 - st.gulls.size()), "", "1", "a1");
    if (bad != 0 || s.isEmpty()) return bad;
    String[] parts = s.split(";");
    for (String part : parts) {
      int b = part.charAt(0) - 'a';
      st.gulls.add(new int[] {b, st.boats.get(b)[4], part.charAt(1) - '0', 0, 0, 0, 0, -1});
    }
    undos.clear();
    return parts.length;
  }

  public int rule() {
    String s = takeText();
    int bad = judge(s, 40, RULE, "", "p", ")", "))", ")))", "))))", "p)", "p))", "p)))", "p))))");
    if (bad == 0) theRule = s;
    return bad;
  }

  // ---- what is there

  private static int pick(List<int[]> list, int i, int what) {
    if (i < 0 || i >= list.size() || what < 0 || what >= list.get(i).length) throw new NoSuchElementException();
    return list.get(i)[what];
  }

  public int boat(int boat, int what) {
    if (what == 6 && boat >= 0 && boat < st.boats.size()) {
      int set = 0;
      for (int i = 0; i < st.letters.size(); i++) {
        if (Arrays.equals(Arrays.copyOfRange(st.letters.get(i), 1, 3), new int[] {2, boat})) set |= 1 << i;
      }
      return set;
    }
    return pick(st.boats, boat, what);
  }

  public int gull(int gull, int what) { return pick(st.gulls, gull, what); }

  public int letter(int letter, int what) { return pick(st.letters, letter, what); }

  public int weather(int what, int v) {
    int was = what == 0 ? wind : storm;
    if (what == 0 && v >= 0 && v <= 9) wind = v;
    else if (what == 1 && (v == 0 || v == 1)) storm = v;
    else return -1;
    return was;
  }

  public int sheet(int kind, int n, int f, int step) {
    if (kind < 0 || kind > 3 || n > 8) return -1;
    if (kind != 3 && n < 0) return -2;
    int sum = 0;
    for (int i = 0; i < st.gulls.size(); i++) {
      int v = f;
      for (int k = 0; k < i; k++) v += step;
      if (kind == 0) v = v << 24 >> 24;
      if (kind == 1) v = v << 16 >> 16;
      if (i >= n || kind == 3) v = 0;
      v = v < 0 ? 0 : v > 9 ? 9 : v;
      if (st.gulls.get(i)[6] == 2) continue;
      st.gulls.get(i)[3] = v;
      sum += v;
    }
    return kind == 3 ? -3 : sum;
  }

  // ---- the day

  private boolean isBoat(int b) { return b >= 0 && b < st.boats.size(); }

  private boolean isGull(int g) { return g >= 0 && g < st.gulls.size(); }

  private void remember(State before) {
    undos.addLast(before);
    if (undos.size() > 12) undos.removeFirst();
  }

  private int did(State before, int answer) {
    if (answer >= 0) remember(before);
    return answer;
  }

  private int write0(int b) {
    if (!isBoat(b)) return -1;
    if (st.letters.size() == 10) return -2;
    st.letters.add(new int[] {b, 0, -1});
    return st.letters.size() - 1;
  }

  private int send0(int g, int l) {
    if (!isGull(g)) return -1;
    int[] gull = st.gulls.get(g);
    if (gull[6] != 0) return -2;
    if (l != -1 && (l < 0 || l >= st.letters.size() || st.letters.get(l)[1] != 0)) return -3;
    if (l != -1) { st.letters.get(l)[1] = 1; st.letters.get(l)[2] = g; }
    gull[6] = 1;
    gull[7] = l;
    return far(gull[4], gull[5], st.boats.get(gull[0]));
  }

  private int paint0(int b, int h) {
    if (!isBoat(b) || h < 0 || h > 5) return -1;
    int was = st.boats.get(b)[4];
    st.boats.get(b)[4] = h;
    return was;
  }

  private int show0(int g) {
    if (!isGull(g)) return -1;
    if (st.gulls.get(g)[6] != 0) return -2;
    return st.gulls.get(g)[1] = st.boats.get(st.gulls.get(g)[0])[4];
  }

  private int chum0(int b, int v) {
    if (!isBoat(b) || v < 0 || v > 1) return -1;
    int was = st.boats.get(b)[5];
    st.boats.get(b)[5] = v;
    return was;
  }

  private int feed0(int g) {
    if (!isGull(g)) return -1;
    if (st.gulls.get(g)[6] != 0) return -2;
    int was = st.gulls.get(g)[3];
    st.gulls.get(g)[3] = 0;
    return was;
  }

  public int write(int b) { return did(st.copy(), write0(b)); }

  public int send(int g, int l) { return did(st.copy(), send0(g, l)); }

  public int paint(int b, int h) { return did(st.copy(), paint0(b, h)); }

  public int show(int g) { return did(st.copy(), show0(g)); }

  public int chum(int b, int v) { return did(st.copy(), chum0(b, v)); }

  public int feed(int g) { return did(st.copy(), feed0(g)); }

  private static int far(int x, int y, int[] cell) { return Math.abs(x - cell[0]) + Math.abs(y - cell[1]); }

  private static void sail(int[] b) {
    for (int axis = 0; axis < 2; axis++) {
      int to = b[axis] + b[axis + 2];
      if (to < 0 || to > 15) b[axis + 2] = -b[axis + 2];
      else b[axis] = to;
    }
  }

  private int goal(State s, int[] g) {
    for (int d = 0; d <= 30; d++) {
      for (int b = 0; b < s.boats.size(); b++) {
        if (far(g[4], g[5], s.boats.get(b)) != d) continue;
        if (storm == 1) return b;
        if (s.boats.get(b)[5] == 1 && d <= 4 && g[3] >= 6) return b;
      }
    }
    return s.boats.get(g[0])[4] == g[1] ? g[0] : -1;
  }

  private int cells(State s, int g, int d) {
    int[] u = s.gulls.get(g);
    int v = eval(theRule.isEmpty() ? "p-(h<1)" : theRule,
        new int[] {u[2], u[3], d, wind, s.now, g, u[7] == -1 ? 0 : 1});
    return v < 0 ? 0 : v > 30 ? 30 : v;
  }

  private static void flyOne(int[] xy, int tx, int ty) {
    if (xy[0] < tx) xy[0]++;
    else if (xy[0] > tx) xy[0]--;
    else if (xy[1] < ty) xy[1]++;
    else if (xy[1] > ty) xy[1]--;
  }

  private void halfHour(State s) {
    for (int[] b : s.boats) sail(b);
    for (int g = 0; g < s.gulls.size(); g++) {
      int[] u = s.gulls.get(g);
      if (u[6] != 1) continue;
      int to = goal(s, u);
      int[] cell = to < 0 ? new int[2] : s.boats.get(to);
      int n = cells(s, g, far(u[4], u[5], cell));
      int[] xy = {u[4], u[5]};
      for (int i = 0; i < n; i++) flyOne(xy, cell[0], cell[1]);
      u[4] = xy[0];
      u[5] = xy[1];
      boolean there = xy[0] == cell[0] && xy[1] == cell[1];
      int[] l = u[7] < 0 ? new int[3] : s.letters.get(u[7]);
      if (there) {
        if (to >= 0) {
          events.add(new int[] {g, to, u[7]});
          u[3] = 0;
        }
        l[1] = to >= 0 ? 2 : 0;
        l[2] = to;
        u[4] = u[5] = u[6] = 0;
        u[7] = -1;
      } else if (u[3] == 9) {
        events.add(new int[] {g, -1, -1});
        l[1] = 3;
        l[2] = -1;
        u[6] = 2;
        u[7] = -1;
      } else {
        u[3]++;
      }
    }
    s.now++;
  }

  private int arrivals() {
    int n = 0;
    for (int[] e : events) if (e[1] >= 0) n++;
    return n;
  }

  private int pass(int n) {
    events.clear();
    State before = st.copy();
    for (int i = 0; i < n; i++) halfHour(st);
    if (n > 0) remember(before);
    int came = 0;
    int decked = 0;
    int died = 0;
    for (int[] e : events) {
      if (e[1] < 0) died |= 1 << e[0];
      else came |= 1 << e[0];
      if (e[2] >= 0) decked |= 1 << e[2];
    }
    told = List.of(came, decked, died);
    return arrivals();
  }

  public int half() { return pass(1); }

  public int halves(int n) { return n < 0 || n > 48 ? -1 : pass(n); }

  public int day() {
    String s = takeText();
    int bad = judge(s, 60, lines(ACT, 60), "", "0", "a", "a0", "00", "h");
    if (bad != 0) return bad;
    State before = st.copy();
    events.clear();
    int done = 0;
    boolean failed = false;
    for (String act : s.isEmpty() ? new String[0] : s.split(";")) {
      if (act1(act) < 0) { failed = true; break; }
      done++;
    }
    if (done > 0) remember(before);
    told = List.of(failed ? 1 : 0, arrivals());
    return done;
  }

  private int act1(String act) {
    int one = act.length() < 2 ? 1 : act.charAt(1) - (act.charAt(1) >= 'a' ? 'a' : '0');
    int two = act.length() < 3 || act.charAt(2) == '-' ? -1 : act.charAt(2) - '0';
    switch (act.charAt(0)) {
      case 'h': for (int i = 0; i < one; i++) halfHour(st); return 0;
      case 'w': return write0(one);
      case 's': return send0(one, two);
      case 'p': return paint0(one, two);
      case 'c': return isBoat(one) ? chum0(one, 1 - st.boats.get(one)[5]) : -1;
      case 'f': return feed0(one);
      default: return show0(one);
    }
  }

  public int undo() {
    if (undos.isEmpty()) return -1;
    st = undos.removeLast();
    return undos.size();
  }

  // ---- half hours to come

  public int where(int b, int n) {
    if (!isBoat(b) || n < 0 || n > 60) return -1;
    int[] u = st.boats.get(b).clone();
    for (int i = 0; i < n; i++) sail(u);
    told = List.of(u[2], u[3]);
    return 16 * u[1] + u[0];
  }

  /** half hours and boat, or null */
  private int[] arrival(State s, int g) {
    State t = s.copy();
    for (int i = 1; i <= 60; i++) {
      events.clear();
      halfHour(t);
      for (int[] e : events) if (e[0] == g && e[1] >= 0) return new int[] {i, e[1]};
    }
    return null;
  }

  private int tellArrival(int[] when) {
    if (when == null) return -2;
    told = List.of(when[1]);
    return when[0];
  }

  public int comes(int g) {
    if (!isGull(g) || st.gulls.get(g)[6] != 1) return -1;
    return tellArrival(arrival(st, g));
  }

  public int would(int g) {
    if (!isGull(g) || st.gulls.get(g)[6] != 0) return -1;
    State s = st.copy();
    s.gulls.get(g)[6] = 1;
    return tellArrival(arrival(s, g));
  }

  private State later(State s, int n) {
    State t = s.copy();
    for (int i = 0; i < n; i++) halfHour(t);
    return t;
  }

  public int delivers(int n) {
    if (n < 0 || n > 60) return -1;
    State t = later(st, n);
    int right = 0;
    int other = 0;
    int lost = 0;
    for (int i = 0; i < t.letters.size(); i++) {
      int[] l = t.letters.get(i);
      if (l[1] == 2 && l[2] == l[0]) right |= 1 << i;
      if (l[1] == 2 && l[2] != l[0]) other |= 1 << i;
      if (l[1] == 3) lost |= 1 << i;
    }
    told = List.of(other, lost);
    return right;
  }

  public int due(int b) {
    if (!isBoat(b)) return -1;
    int[] at = new int[4];
    for (int i = 0; i < st.letters.size(); i++) {
      int[] l = st.letters.get(i);
      if (l[0] == b && !(l[1] == 2 && l[2] == b)) at[l[1]] |= 1 << i;
    }
    told = List.of(at[0], at[1], at[2], at[3]);
    return at[0] | at[1] | at[2] | at[3];
  }

  public int heads(int g) {
    if (!isGull(g) || st.gulls.get(g)[6] != 1) return -1;
    int[] u = st.gulls.get(g);
    int to = goal(st, u);
    int d = far(u[4], u[5], to < 0 ? new int[2] : st.boats.get(to));
    told = List.of(to, Math.min(d, cells(st, g, d)));
    return d;
  }

  public int nearest(int a, int b) {
    if (!isBoat(a) || !isBoat(b) || a == b) return -1;
    int best = -1;
    int least = 99;
    for (int t = 60; t >= 0; t--) {
      State s = later(st, t);
      int d = far(s.boats.get(a)[0], s.boats.get(a)[1], s.boats.get(b));
      if (d <= least) { least = d; best = t; }
    }
    told = List.of(least);
    return best;
  }

  // ---- orders

  /** when[b], if boat b is told in half hours at[b] (-1: not). */
  private int[] hear(int[] at, int shout, int n) {
    int boats = st.boats.size();
    int[] when = new int[boats];
    Arrays.fill(when, -1);
    State s = st.copy();
    for (int t = 0; t <= n; t++) {
      for (int b = 0; b < boats; b++) if (at[b] == t && when[b] < 0) when[b] = t;
      for (int k = 0; k < boats; k++) {
        for (int b = 0; b < boats; b++) {
          for (int c = 0; c < boats; c++) {
            boolean near = far(s.boats.get(b)[0], s.boats.get(b)[1], s.boats.get(c)) <= shout;
            if (when[b] >= 0 && when[c] < 0 && near) when[c] = t;
          }
        }
      }
      for (int[] b : s.boats) sail(b);
    }
    return when;
  }

  private int[] toldNow(int those) {
    int[] at = new int[st.boats.size()];
    for (int b = 0; b < at.length; b++) at[b] = (those >> b & 1) == 1 ? 0 : -1;
    return at;
  }

  private static int latest(int[] when) {
    int max = 0;
    for (int w : when) {
      if (w < 0) return -2;
      max = Math.max(max, w);
    }
    return max;
  }

  public int shouted(int those, int shout, int n) {
    if (those < 0 || those >= 1 << st.boats.size() || shout < 0 || shout > 15 || n < 0 || n > 60) return -1;
    int[] when = hear(toldNow(those), shout, n);
    int know = 0;
    told = new ArrayList<>();
    for (int b = 0; b < when.length; b++) {
      told.add(when[b]);
      if (when[b] >= 0) know |= 1 << b;
    }
    return know;
  }

  public int spreads(int those, int shout) {
    if (those <= 0 || those >= 1 << st.boats.size() || shout < 0 || shout > 15) return -1;
    return latest(hear(toldNow(those), shout, 60));
  }

  public int teller(int shout) {
    if (shout < 0 || shout > 15) return -1;
    int best = -2;
    int soonest = 99;
    for (int b = st.boats.size() - 1; b >= 0; b--) {
      int when = spreads(1 << b, shout);
      if (when >= 0 && when <= soonest) { soonest = when; best = b; }
    }
    if (best >= 0) told = List.of(soonest);
    return best;
  }

  public int order(int shout, int n) {
    if (shout < 0 || shout > 15 || n < 1 || n > 60) return -1;
    int best = -1;
    int bestWhen = 0;
    int[][] comes = new int[st.gulls.size()][];
    for (int g = 0; g < comes.length; g++) {
      if (st.gulls.get(g)[6] != 0) continue;
      State s = st.copy();
      s.gulls.get(g)[6] = 1;
      comes[g] = arrival(s, g);
    }
    for (int set = 0; set < 1 << comes.length; set++) {
      int[] at = new int[st.boats.size()];
      Arrays.fill(at, -1);
      boolean can = true;
      for (int g = 0; g < comes.length; g++) {
        if ((set >> g & 1) == 0) continue;
        can &= st.gulls.get(g)[6] == 0;
        int[] c = comes[g];
        if (c != null && (at[c[1]] < 0 || c[0] < at[c[1]])) at[c[1]] = c[0];
      }
      if (!can || best >= 0 && Integer.bitCount(set) >= Integer.bitCount(best)) continue;
      int when = latest(hear(at, shout, n));
      if (when >= 0) { best = set; bestWhen = when; }
    }
    if (best < 0) return -2;
    told = List.of(best, bestWhen);
    return Integer.bitCount(best);
  }

  // ---- thieves and the rest

  private int stolen(int chum, int n) {
    State s = st.copy();
    if (chum >= 0) for (int b = 0; b < s.boats.size(); b++) s.boats.get(b)[5] = b == chum ? 1 : 0;
    events.clear();
    for (int i = 0; i < n; i++) halfHour(s);
    int k = 0;
    for (int[] e : events) {
      if (e[2] >= 0 && s.letters.get(e[2])[0] != e[1] && (chum < 0 || chum == e[1])) k++;
    }
    return k;
  }

  public int thief(int n) {
    if (n < 1 || n > 60) return -1;
    if (st.boats.isEmpty()) return -2;
    int best = 0;
    for (int b = 1; b < st.boats.size(); b++) if (stolen(b, n) > stolen(best, n)) best = b;
    told = List.of(stolen(best, n), stolen(-1, n));
    return best;
  }

  public int astray() {
    int wrong = 0;
    int ashore = 0;
    for (int g = 0; g < st.gulls.size(); g++) {
      int[] u = st.gulls.get(g);
      if (u[6] != 1) continue;
      int to = goal(st, u);
      if (to < 0) ashore += 1 << g;
      else if (to != u[0]) wrong += 1 << g;
    }
    told = List.of(ashore);
    return wrong;
  }

  public int fits(int g, int n) {
    if (!isGull(g) || n < 1 || n > 60) return -1;
    int[] u = st.gulls.get(g);
    int[] b = st.boats.get(u[0]);
    List<Integer> cells = new ArrayList<>();
    for (int sy = 0; sy < 16; sy++) {
      for (int sx = 0; sx < 16; sx++) {
        int[] xy = new int[2];
        int met = 0;
        for (int t = 1; t <= n && met == 0; t++) {
          for (int i = 0; i < u[2]; i++) flyOne(xy, sx + t * b[2], sy + t * b[3]);
          if (xy[0] == sx + t * b[2] && xy[1] == sy + t * b[3]) met = t;
        }
        int x = sx + n * b[2];
        int y = sy + n * b[3];
        if (met == n && x >= 0 && x < 16 && y >= 0 && y < 16) cells.add(16 * y + x);
      }
    }
    cells.sort(null);
    told = cells.isEmpty() ? List.of(-1, -1) : List.of(cells.get(0), cells.get(cells.size() - 1));
    return cells.size();
  }

  public int ring(int d) {
    if (d < 0 || d > 30) return -1;
    int n = 0;
    int on = 0;
    for (int c = 0; c < 256; c++) {
      if (c / 16 + c % 16 != d) continue;
      n++;
      for (int b = 0; b < st.boats.size(); b++) {
        if (st.boats.get(b)[0] == c % 16 && st.boats.get(b)[1] == c / 16) on |= 1 << b;
      }
    }
    told = List.of(on);
    return n;
  }

  public int lonely() {
    if (st.boats.isEmpty()) return -2;
    told = new ArrayList<>();
    for (int b = 0; b < st.boats.size(); b++) told.add(0);
    for (int[] u : st.gulls) if (u[6] != 2) told.set(u[0], told.get(u[0]) + 1);
    return told.indexOf(java.util.Collections.min(told));
  }

  public int train(int n, int p) {
    int boats = st.boats.size();
    if (n < 1 || n > 8 || p < 0 || p > 10 || boats == 0) return -1;
    long best = -1;
    int all = (int) Math.pow(9, boats);
    for (int code = 0; code < all; code++) {
      int[] k = new int[boats];
      int rest = code;
      int sum = 0;
      for (int b = boats - 1; b >= 0; b--) { k[b] = rest % 9; rest /= 9; sum += k[b]; }
      if (sum != n) continue;
      long v = 10000;
      for (int b = 0; b < boats; b++) {
        long ten = Math.round(Math.pow(10, k[b]));
        v = v * (ten - Math.round(Math.pow(10 - p, k[b]))) / ten;
      }
      if (v > best) {
        best = v;
        told = new ArrayList<>();
        for (int i : k) told.add(i);
      }
    }
    return (int) best;
  }

  private long drawn;

  private int draw(int n) {
    drawn = (drawn * 1103515245L + 12345L) & 0xffffffffL;
    return (int) (drawn / 65536 % n);
  }

  public int codes(int seed) {
    String s = takeText();
    for (int i = 0; i < 13; i++) {
      if (i == s.length()) {
        if (i == 0) return -1;
        break;
      }
      if (i == 12 || !Character.isDigit(s.charAt(i))) return -1 - i;
    }
    drawn = seed & 0xffffffffL;
    word = new int[s.length()];
    wordDraws = new int[s.length()];
    for (int i = 0; i < word.length; i++) {
      word[i] = s.charAt(i) - '0';
      wordDraws[i] = draw(11);
    }
    return word.length;
  }

  public int slip(int j, int i) {
    if (word == null) return -2;
    if (j < 1 || j > 3 || i < 0) return -1;
    return i >= word.length ? -1 : (word[i] + j * wordDraws[i]) % 11;
  }

  public int opens(int a, int u, int b, int v) {
    if (a < 1 || a > 3 || b < 1 || b > 3 || a == b || u < 0 || u > 10 || v < 0 || v > 10) return -1;
    for (int digit = 0; digit < 10; digit++) {
      for (int d = 0; d < 11; d++) {
        if ((digit + a * d) % 11 == u && (digit + b * d) % 11 == v) {
          told = List.of(d);
          return digit;
        }
      }
    }
    return -2;
  }

  public int season(int seed, int n, int p) {
    if (n < 1 || n > 60 || p < 1 || p > 10) return -1;
    State was = st;
    int wasWind = wind;
    int wasStorm = storm;
    st = was.copy();
    drawn = seed & 0xffffffffL;
    events.clear();
    for (int i = 0; i < n; i++) {
      wind = draw(10);
      storm = draw(p) == 0 ? 1 : 0;
      int g = draw(8);
      if (isGull(g) && st.gulls.get(g)[6] == 0) st.gulls.get(g)[6] = 1;
      halfHour(st);
    }
    int decks = 0;
    for (int i = 0; i < st.letters.size(); i++) if (st.letters.get(i)[1] == 2) decks |= 1 << i;
    st = was;
    wind = wasWind;
    storm = wasStorm;
    told = List.of(events.size() - arrivals(), decks);
    return arrivals();
  }

  public boolean keep(int i) {
    if (i < 0 || i > 1) return false;
    kept[i] = st.copy();
    return true;
  }

  public boolean again(int i) {
    if (i < 0 || i > 1 || kept[i] == null) return false;
    if (kept[i].boats.size() != st.boats.size() || kept[i].gulls.size() != st.gulls.size()) return false;
    st = kept[i].copy();
    undos.clear();
    return true;
  }

  private static int where(List<int[]> list, int what, int value) {
    int set = 0;
    for (int i = 0; i < list.size(); i++) if (list.get(i)[what] == value) set |= 1 << i;
    return set;
  }

  public int count(int what) {
    int[] all = {st.boats.size(), st.gulls.size(), st.letters.size(), st.now, wind, storm,
        where(st.gulls, 6, 1), where(st.gulls, 6, 2), where(st.letters, 1, 0), where(st.letters, 1, 3),
        undos.size(), told.size(), text.length()};
    return what < 0 || what >= all.length ? -1 : all[what];
  }

  public int row(int i) {
    if (i < 0 || i >= told.size()) throw new NoSuchElementException();
    return told.get(i);
  }
}
