import java.lang.reflect.InvocationTargetException;
import java.lang.reflect.Method;
import java.util.Random;

/** Random runs of calls, each answered by the program and by PlainModel alike. */
public final class RandomRunsTest {
  private static final String[] QUESTIONS = {"where", "comes", "would", "delivers", "due", "heads", "nearest",
      "shouted", "spreads", "teller", "order", "thief", "astray", "fits", "ring", "lonely", "train", "slip",
      "opens", "season", "count", "row"};
  private static final String[] ACTS = {"write", "send", "send", "send", "send", "paint", "show", "chum", "feed", "half", "half",
      "halves", "undo", "weather", "sheet", "keep", "again"};
  private static final String[] TEXTS = {"day", "day", "rule", "fleet", "gulls", "codes"};

  private static final java.util.Map<String, Integer> asked = new java.util.TreeMap<>();
  private static int wrong = 0;

  private final Random random;
  private final OneGullToABoat one = new OneGullToABoat();
  private final PlainModel other = new PlainModel();
  private final StringBuilder log = new StringBuilder();
  private int calls;

  private RandomRunsTest(long seed) { random = new Random(seed); }

  private static Method method(Object o, String name) {
    for (Method m : o.getClass().getMethods()) if (m.getName().equals(name)) return m;
    throw new IllegalStateException(name);
  }

  private static String answer(Object o, String name, Object... args) {
    try {
      return String.valueOf(method(o, name).invoke(o, args));
    } catch (InvocationTargetException e) {
      return "throws " + e.getCause();
    } catch (IllegalAccessException e) {
      throw new IllegalStateException(e);
    }
  }

  /** The 513th call and those behind it are free, so they are not made. */
  private String both(String name, Object... args) {
    if (++calls > 512) return "";
    String a = answer(one, name, args);
    String b = answer(other, name, args);
    log.append(name).append(java.util.Arrays.toString(args)).append(" -> ").append(a).append('\n');
    asked.merge(name + (a.startsWith("-") ? " <0" : ""), 1, Integer::sum);
    if (!a.equals(b)) {
      wrong++;
      if (wrong < 4) System.out.println(log + "but the plain model answered " + b);
    }
    return a;
  }

  private int around(int least, int most) {
    int k = random.nextInt(40);
    if (k == 0) return least - 1;
    if (k == 1) return most + 1;
    if (k == 2) return random.nextInt();
    return least + random.nextInt(most - least + 1);
  }

  private int number(String name, int i) {
    int boats = other.count(0);
    int gulls = other.count(1);
    int letters = other.count(2);
    switch (name) {
      case "write": case "due": return around(0, Math.max(0, boats - 1));
      case "paint": return i == 0 ? around(0, Math.max(0, boats - 1)) : around(0, 5);
      case "chum": return i == 0 ? around(0, Math.max(0, boats - 1)) : around(0, 1);
      case "send": return i == 0 ? around(0, Math.max(0, gulls - 1)) : around(-1, Math.max(0, letters - 1));
      case "show": case "feed": case "comes": case "would": case "heads":
        return around(0, Math.max(0, gulls - 1));
      case "halves": return random.nextInt(9) == 0 ? around(0, 48) : around(0, 4);
      case "weather": return i == 0 ? around(0, 1) : random.nextInt(3) > 0 ? around(0, 1) : around(0, 9);
      case "sheet":
        if (i == 0) return around(0, 3);
        if (i == 1) return around(0, 8);
        return random.nextInt(3) == 0 ? random.nextInt() : around(-3, 12);
      case "keep": case "again": return around(0, 1);
      case "where": return i == 0 ? around(0, Math.max(0, boats - 1)) : around(0, 60);
      case "nearest": return around(0, Math.max(0, boats - 1));
      case "delivers": return around(0, 60);
      case "shouted": return i == 0 ? around(0, (1 << boats) - 1) : i == 1 ? around(0, 15) : around(0, 60);
      case "spreads": return i == 0 ? around(0, (1 << boats) - 1) : around(0, 15);
      case "teller": return random.nextBoolean() ? around(0, 4) : around(0, 15);
      case "order": return i == 0 ? around(0, 8) : around(1, 60);
      case "thief": return around(1, 60);
      case "fits": return i == 0 ? around(0, Math.max(0, gulls - 1)) : random.nextInt(3) > 0 ? around(1, 8) : around(1, 60);
      case "ring": return around(0, 30);
      case "train": return i == 0 ? around(1, 8) : around(0, 10);
      case "codes": return random.nextInt();
      case "slip": return i == 0 ? around(1, 3) : around(0, 11);
      case "opens": return i % 2 == 0 ? around(1, 3) : around(0, 10);
      case "season": return i == 0 ? random.nextInt() : i == 1 ? around(1, 60) : around(1, 10);
      case "count": return around(0, 12);
      default: return around(0, 6);
    }
  }

  private void call(String name) {
    Object[] args = new Object[method(one, name).getParameterCount()];
    for (int i = 0; i < args.length; i++) args[i] = number(name, i);
    both(name, args);
  }

  private char of(String signs) { return signs.charAt(random.nextInt(signs.length())); }

  private String expression(int deep) {
    StringBuilder s = new StringBuilder();
    int n = 1 + random.nextInt(3);
    boolean compared = false;
    for (int i = 0; i < n; i++) {
      if (i > 0) {
        char op = of(compared ? "+-*/" : "+-*/<>=");
        compared |= "<>=".indexOf(op) >= 0;
        s.append(op);
      }
      while (random.nextInt(5) == 0) s.append('-');
      int k = random.nextInt(6);
      if (k == 0 && deep < 5) s.append('(').append(expression(deep + 1)).append(')');
      else if (k < 3) s.append(random.nextInt(random.nextBoolean() ? 10 : 1000));
      else s.append(of("phdwsgl"));
    }
    return s.toString();
  }

  private String line(String name) {
    switch (name) {
      case "fleet":
        return random.nextInt(16) + "," + random.nextInt(16)
            + new String[] {"-", "n", "e", "s", "w", "ne", "nw", "se", "sw"}[random.nextInt(9)] + of("012345");
      case "gulls":
        return "" + (char) ('a' + random.nextInt(Math.max(1, other.count(0)))) + of("123456789");
      case "day":
        char a = (char) ('a' + random.nextInt(random.nextInt(5) == 0 ? 6 : Math.max(1, other.count(0))));
        int g = random.nextInt(random.nextInt(9) == 0 ? 10 : Math.max(1, other.count(1)));
        switch (random.nextInt(8)) {
          case 0: return "h" + of("123456789");
          case 1: return "h";
          case 2: return "w" + a;
          case 3: return "s" + g + (random.nextBoolean() ? '-' : of("0123456789"));
          case 4: return "p" + a + of("012345");
          case 5: return "c" + a;
          case 6: return "f" + g;
          default: return "o" + g;
        }
      default:
        return "";
    }
  }

  private String someText(String name) {
    if (random.nextInt(12) == 0) return "";
    StringBuilder s = new StringBuilder();
    if (name.equals("rule")) {
      s.append(random.nextInt(4) == 0 ? "p+" + expression(0) : expression(0));
      while (random.nextInt(6) == 0 && s.length() < 80) s.append(of("+-*/")).append(expression(1));
    } else if (name.equals("codes")) {
      for (int n = 1 + random.nextInt(13); n > 0; n--) s.append(of("0123456789"));
    } else {
      int n = 1 + random.nextInt(name.equals("day") ? 24 : 4);
      for (int i = 0; i < n; i++) s.append(i == 0 ? "" : ";").append(line(name));
    }
    if (random.nextInt(4) == 0 && s.length() > 0) {
      int at = random.nextInt(s.length());
      char c = random.nextInt(9) == 0 ? (char) random.nextInt(256) : of("0123456789abcdefhwspo;,-nesw()<+*gl");
      if (random.nextBoolean()) s.setCharAt(at, c);
      else if (random.nextBoolean()) s.insert(at, c);
      else s.setLength(at);
    }
    return s.length() > 80 ? s.substring(0, 80) : s.toString();
  }

  private void signs(String s) {
    log.append("THE TEXT: ").append(s).append('\n');
    for (int i = 0; i < s.length(); i += 4) {
      int v = 0;
      for (int k = 0; k < 4; k++) v = v << 8 | (i + k < s.length() ? s.charAt(i + k) : 0);
      both("sign", v);
    }
  }

  private void tell(String name) {
    String s = someText(name);
    if (random.nextInt(9) > 0) both("end", 0);
    signs(s);
    if (random.nextInt(20) > 0) both("end", s.length());
    if (random.nextInt(30) == 0) both("end", around(0, 80));
    if (name.equals("codes")) both(name, random.nextInt());
    else both(name);
  }

  private void tellFull() {
    StringBuilder s = new StringBuilder(line("fleet"));
    for (int i = 1; i < 6; i++) s.append(';').append(line("fleet"));
    signs(s.toString());
    both("end", s.length());
    both("fleet");
    for (int i = 0; i < 8; i++) {
      both("sign", ('a' + random.nextInt(6)) << 24 | of("123456789") << 16);
      both("end", 2);
      both("gulls");
    }
    for (int i = random.nextInt(11); i > 0; i--) both("write", random.nextInt(6));
  }

  private void lookAtAll() {
    for (int i = -1; i <= 13; i++) both("count", i);
    for (int i = -1; i <= other.count(11); i++) both("row", i);
    for (int b = -1; b <= other.count(0); b++) for (int k = -1; k <= 7; k++) both("boat", b, k);
    for (int g = -1; g <= other.count(1); g++) for (int k = -1; k <= 8; k++) both("gull", g, k);
    for (int l = -1; l <= other.count(2); l++) for (int k = -1; k <= 3; k++) both("letter", l, k);
    for (int j = 0; j <= 4; j++) for (int i = -1; i <= 12; i++) both("slip", j, i);
  }

  /** A look at all has 330 calls at most. */
  private void run() {
    int before = wrong;
    int start = random.nextInt(10);
    if (start < 4) {
      tellFull();
    } else if (start < 9) {
      tell("fleet");
      tell("fleet");
      tell("gulls");
      tell("gulls");
    }
    int last = random.nextInt(4) == 0 ? 182 : 512;
    while (calls < last && wrong == before) {
      int k = random.nextInt(10);
      if (k < 5) call(ACTS[random.nextInt(ACTS.length)]);
      else if (k < 9) call(QUESTIONS[random.nextInt(QUESTIONS.length)]);
      else if (random.nextInt(3) > 0) tell(TEXTS[random.nextInt(3)]);
      else tell(TEXTS[random.nextInt(TEXTS.length)]);
      // an act leaves the row, as a look now and then tells
      if (k >= 5 || random.nextInt(6) == 0) for (int r = 0; r <= other.count(11); r++) both("row", r);
    }
    lookAtAll();
  }

  public static void main(String[] args) {
    int runs = args.length > 0 ? Integer.parseInt(args[0]) : 800;
    long first = args.length > 1 ? Long.parseLong(args[1]) : 1;
    for (int i = 0; i < runs && wrong == 0; i++) new RandomRunsTest(first + i).run();
    if (args.length > 0) System.out.println(asked);
    System.out.println(wrong == 0 ? "random runs: all answers alike" : "random runs: " + wrong + " wrong");
    if (wrong > 0) System.exit(1);
  }
}
