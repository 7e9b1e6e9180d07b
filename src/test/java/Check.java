import java.util.NoSuchElementException;

/** What the tests of the project share: texts told sign by sign, answers held against those due. */
public final class Check {
  private int right;
  private int wrong;

  public void is(String call, long got, long want) {
    if (got == want) {
      right++;
    } else {
      wrong++;
      System.out.println(call + " answered " + got + ", due is " + want);
    }
  }

  public void is(String call, boolean got, boolean want) {
    is(call, got ? 1 : 0, want ? 1 : 0);
  }

  /** The whole ROW, its length too. */
  public void row(String call, OneGullToABoat x, int... want) {
    is(call + " row length", x.count(11), want.length);
    for (int i = 0; i < want.length && i < x.count(11); i++) is(call + " row(" + i + ")", x.row(i), want[i]);
    noRow(call, x, want.length);
  }

  public void noRow(String call, OneGullToABoat x, int i) {
    boolean thrown = false;
    try { x.row(i); } catch (NoSuchElementException e) { thrown = true; }
    is(call + " row(" + i + ") throws", thrown, true);
  }

  public void noBoat(OneGullToABoat x, int b, int what) {
    boolean thrown = false;
    try { x.boat(b, what); } catch (NoSuchElementException e) { thrown = true; }
    is("boat(" + b + ", " + what + ") throws", thrown, true);
  }

  public void noGull(OneGullToABoat x, int g, int what) {
    boolean thrown = false;
    try { x.gull(g, what); } catch (NoSuchElementException e) { thrown = true; }
    is("gull(" + g + ", " + what + ") throws", thrown, true);
  }

  public void noLetter(OneGullToABoat x, int l, int what) {
    boolean thrown = false;
    try { x.letter(l, what); } catch (NoSuchElementException e) { thrown = true; }
    is("letter(" + l + ", " + what + ") throws", thrown, true);
  }

  public void boat(OneGullToABoat x, int b, int... want) {
    for (int i = 0; i < want.length; i++) is("boat(" + b + ", " + i + ")", x.boat(b, i), want[i]);
  }

  public void gull(OneGullToABoat x, int g, int... want) {
    for (int i = 0; i < want.length; i++) is("gull(" + g + ", " + i + ")", x.gull(g, i), want[i]);
  }

  public void letter(OneGullToABoat x, int l, int... want) {
    for (int i = 0; i < want.length; i++) is("letter(" + l + ", " + i + ")", x.letter(l, i), want[i]);
  }

  public static void tell(OneGullToABoat x, String s) {
    x.end(0);
    for (int i = 0; i < s.length(); i += 4) {
      int v = 0;
      for (int k = 0; k < 4; k++) v = v << 8 | (i + k < s.length() ? s.charAt(i + k) : 0);
      x.sign(v);
    }
    x.end(s.length());
  }

  public static int fleet(OneGullToABoat x, String s) { tell(x, s); return x.fleet(); }

  public static int gulls(OneGullToABoat x, String s) { tell(x, s); return x.gulls(); }

  public static int rule(OneGullToABoat x, String s) { tell(x, s); return x.rule(); }

  public static int day(OneGullToABoat x, String s) { tell(x, s); return x.day(); }

  public static int codes(OneGullToABoat x, String s, int seed) { tell(x, s); return x.codes(seed); }

  public static OneGullToABoat sea(String fleet, String gulls) {
    OneGullToABoat x = new OneGullToABoat();
    fleet(x, fleet);
    gulls(x, gulls);
    return x;
  }

  /** Ends the test: exit code 1 if an answer was not the one that is due. */
  public void end(String name) {
    System.out.println(name + ": " + right + " right, " + wrong + " wrong");
    if (wrong > 0) System.exit(1);
  }
}
