/**
 * The edges of all texts (promises 2 to 6, 20, 39): every beginning of a text that can stand, every sign of it put wrong,
 * digits and letters ahead of the first and behind the last that can stand, the longest texts and those one sign longer.
 */
public final class EdgeTextTest {
  private static final Check c = new Check();

  private interface Reader { int read(OneGullToABoat x, String s); }

  private interface Maker { OneGullToABoat make(); }

  public static void main(String[] args) {
    signs();
    ends();
    fleetSigns();
    fleetNumbers();
    fleetCourses();
    fleetRoom();
    fleetLong();
    gullSigns();
    gullRoom();
    ruleSigns();
    ruleParts();
    ruleLong();
    daySigns();
    dayParts();
    dayLong();
    wordSigns();
    c.end("EdgeTextTest");
  }

  private static OneGullToABoat empty() { return new OneGullToABoat(); }

  private static OneGullToABoat two() { return Check.sea("4,3-4;5,5-2", "a9;b9"); }

  private static void reads(String name, Maker m, Reader r, String s, int want) {
    OneGullToABoat x = m.make();
    c.is(name + " '" + s + "'", r.read(x, s), want);
    c.is(name + " '" + s + "': the text is empty then", x.count(12), 0);
  }

  /** Ends: how long a beginning is that can stand, and what is answered to it, by turns; others end too early. */
  private static void beginnings(String name, Maker m, Reader r, String whole, int... ends) {
    for (int n = 0; n <= whole.length(); n++) {
      int want = -1 - n;
      for (int i = 0; i < ends.length; i += 2) if (ends[i] == n) want = ends[i + 1];
      reads(name, m, r, whole.substring(0, n), want);
    }
  }

  /** Signs that can stand nowhere, one that is a right one but for its highest bit among them. */
  private static void wrongSigns(String name, Maker m, Reader r, String whole) {
    for (int p = 0; p < whole.length(); p++) {
      int high = 128 + whole.charAt(p);
      for (int sign : new int[] {0, ' ', 'x', 'A', '!', 127, 128, 255, high}) {
        reads(name, m, r, whole.substring(0, p) + (char) sign + whole.substring(p + 1), -1 - p);
        reads(name, m, r, whole.substring(0, p) + (char) sign, -1 - p);
      }
    }
  }

  private static void signs() {
    // 0 .. 80 by fours, from each of 0 .. 3 on
    for (int from = 0; from < 4; from++) {
      OneGullToABoat x = new OneGullToABoat();
      x.sign(0x31313131);
      x.end(from);
      for (int n = from + 4; n <= 80; n += 4) c.is("2: from " + from, x.sign(0x31313131), n);
      c.is("2: more than 80", x.sign(0x31313131), -1);
      c.is("2: as many as before", x.count(12), from == 0 ? 80 : 76 + from);
    }
    // of v the highest byte first, also of one below 0: 0xb1 is no digit
    OneGullToABoat y = new OneGullToABoat();
    y.sign(0x31b23334);
    c.is("2: the second sign", y.codes(1), -2);
    y.sign(0xb1323334);
    c.is("2: the first sign", y.codes(1), -1);
    y.sign(0x313233b4);
    c.is("2: the last sign", y.codes(1), -4);
    y.sign(0x31303235);
    c.is("2: a word", y.codes(1), 4);
    // a word of the same digits tells the DRAWs apart from the digits
    OneGullToABoat z = new OneGullToABoat();
    Check.codes(z, "0000", 1);
    int[] digits = {1, 0, 2, 5};
    for (int i = 0; i < 4; i++) c.is("2: digit " + i, y.slip(1, i), (z.slip(1, i) + digits[i]) % 11);
  }

  private static void ends() {
    OneGullToABoat x = new OneGullToABoat();
    c.is("3: 0 of none", x.end(0), true);
    c.is("3: 1 of none", x.end(1), false);
    c.is("3: -1 of none", x.end(-1), false);
    for (int i = 0; i < 20; i++) x.sign(0x31323334);
    c.is("3: 81 of 80", x.end(81), false);
    c.is("3: 80 of 80", x.end(80), true);
    c.is("3: 80 stay", x.count(12), 80);
    c.is("3: 79", x.end(79), true);
    c.is("3: 79 stay", x.count(12), 79);
    c.is("3: 80 of 79", x.end(80), false);
    c.is("3: below 0", x.end(Integer.MIN_VALUE), false);
    c.is("3: far above", x.end(Integer.MAX_VALUE), false);
    c.is("3: 79 still", x.count(12), 79);
    c.is("3: 2", x.end(2), true);
    c.is("3: four behind these", x.sign(0x35363738), 6);
    c.is("3: six digits", x.codes(1), 6);
    OneGullToABoat z = new OneGullToABoat();
    Check.codes(z, "000000", 1);
    int[] digits = {1, 2, 5, 6, 7, 8};
    for (int i = 0; i < 6; i++) c.is("3: the first two alone", x.slip(1, i), (z.slip(1, i) + digits[i]) % 11);
    c.is("3: read, so empty", x.end(1), false);
  }

  private static void fleetSigns() {
    String whole = "15,09se5;7,3-0;0,15w1";
    beginnings("4:", EdgeTextTest::empty, Check::fleet, whole, 0, 0, 8, 1, 14, 2, 21, 3);
    wrongSigns("4:", EdgeTextTest::empty, Check::fleet, whole);
    // its end: nothing behind the last ;
    reads("4:", EdgeTextTest::empty, Check::fleet, whole + ";", -23);
    // a text of ; alone, and two of them
    reads("4:", EdgeTextTest::empty, Check::fleet, ";", -1);
    reads("4:", EdgeTextTest::empty, Check::fleet, "7,3-0;;7,3-0", -7);
  }

  private static void fleetNumbers() {
    for (int v = 0; v <= 99; v++) {
      String two = "" + v / 10 + v % 10;
      reads("4: x", EdgeTextTest::empty, Check::fleet, two + ",1-0", v <= 15 ? 1 : -2);
      reads("4: y", EdgeTextTest::empty, Check::fleet, "1," + two + "-0", v <= 15 ? 1 : -4);
    }
    for (int v = 0; v <= 9; v++) {
      OneGullToABoat x = new OneGullToABoat();
      c.is("4: one digit", Check.fleet(x, v + "," + (9 - v) + "-0;0" + v + ",0" + (9 - v) + "-0"), 2);
      c.boat(x, 0, v, 9 - v);
      c.boat(x, 1, v, 9 - v);
    }
    for (int v = 10; v <= 15; v++) {
      OneGullToABoat x = new OneGullToABoat();
      c.is("4: two digits", Check.fleet(x, v + "," + (25 - v) + "-0"), 1);
      c.boat(x, 0, v, 25 - v);
    }
    // a third digit, behind a number that could stand and behind one that could not
    reads("4:", EdgeTextTest::empty, Check::fleet, "015,1-0", -3);
    reads("4:", EdgeTextTest::empty, Check::fleet, "1,015-0", -5);
    reads("4:", EdgeTextTest::empty, Check::fleet, "160,1-0", -2);
    // ahead of the first digit and behind the last one
    reads("4:", EdgeTextTest::empty, Check::fleet, "/,1-0", -1);
    reads("4:", EdgeTextTest::empty, Check::fleet, ":,1-0", -1);
    reads("4:", EdgeTextTest::empty, Check::fleet, "1/,1-0", -2);
    reads("4:", EdgeTextTest::empty, Check::fleet, "1:,1-0", -2);
    reads("4:", EdgeTextTest::empty, Check::fleet, "0/,1-0", -2);
    reads("4:", EdgeTextTest::empty, Check::fleet, "0:,1-0", -2);
    reads("4:", EdgeTextTest::empty, Check::fleet, "1,0/-0", -4);
    reads("4:", EdgeTextTest::empty, Check::fleet, "1,0:-0", -4);
    reads("4:", EdgeTextTest::empty, Check::fleet, "-1,1-0", -1);
    for (char hull = '0' - 1; hull <= '9' + 1; hull++) {
      OneGullToABoat x = new OneGullToABoat();
      boolean can = hull >= '0' && hull <= '5';
      c.is("4: hull " + hull, Check.fleet(x, "1,1-" + hull), can ? 1 : -5);
      c.is("4: hull " + hull, x.count(0), can ? 1 : 0);
      if (can) c.is("4: hull " + hull, x.boat(0, 4), hull - '0');
    }
    reads("4: two hulls", EdgeTextTest::empty, Check::fleet, "1,1-05", -6);
  }

  private static void fleetCourses() {
    String[] courses = {"-", "n", "e", "s", "w", "ne", "nw", "se", "sw"};
    int[] dx = {0, 0, 1, 0, -1, 1, -1, 1, -1};
    int[] dy = {0, -1, 0, 1, 0, -1, -1, 1, 1};
    for (int i = 0; i < courses.length; i++) {
      OneGullToABoat x = new OneGullToABoat();
      c.is("4: course " + courses[i], Check.fleet(x, "4,3" + courses[i] + "0"), 1);
      c.boat(x, 0, 4, 3, dx[i], dy[i], 0, 0, 0);
    }
    // of all two signs of these only n or s, then e or w
    String signs = "-nesw";
    for (char a : signs.toCharArray()) {
      for (char b : signs.toCharArray()) {
        boolean can = (a == 'n' || a == 's') && (b == 'e' || b == 'w');
        reads("4: course", EdgeTextTest::empty, Check::fleet, "4,3" + a + b + "0", can ? 1 : -5);
      }
    }
    for (char d : signs.toCharArray()) reads("4: three", EdgeTextTest::empty, Check::fleet, "4,3ne" + d + "0", -6);
    reads("4: none at all, so y is 30", EdgeTextTest::empty, Check::fleet, "4,30", -4);
    reads("4: none at all, so y is 10", EdgeTextTest::empty, Check::fleet, "4,10", -5);
    reads("4: none at all", EdgeTextTest::empty, Check::fleet, "4,0;", -4);
  }

  private static String lines(String line, int n) {
    StringBuilder s = new StringBuilder();
    for (int i = 0; i < n; i++) s.append(i > 0 ? ";" : "").append(line);
    return s.toString();
  }

  /** At most 6: with each number there already, as many as there is room for, and one more. */
  private static void fleetRoom() {
    for (int there = 0; there <= 6; there++) {
      int boats = there;
      Maker m = () -> { OneGullToABoat x = new OneGullToABoat(); Check.fleet(x, lines("9,9-1", boats)); return x; };
      int room = 6 - there;
      if (room > 0) reads("4: room " + room, m, Check::fleet, lines("1,1-0", room), room);
      for (int more = room + 1; more <= 7; more++) {
        OneGullToABoat x = m.make();
        c.is("4: no room", Check.fleet(x, lines("1,1-0", more)), -1 - 6 * room);
        c.is("4: no room, nothing comes", x.count(0), there);
        for (int b = 0; b < there; b++) c.boat(x, b, 9, 9, 0, 0, 1, 0, 0);
      }
      // the first sign of that LINE, whatever it is, or the end
      reads("4: no room, x", m, Check::fleet, room > 0 ? lines("1,1-0", room) + ";x" : "x", -1 - 6 * room);
      if (room > 0) reads("4: no room, end", m, Check::fleet, lines("1,1-0", room) + ";", -1 - 6 * room);
      if (room > 0) reads("4: no room, ;", m, Check::fleet, lines("1,1-0", room) + ";;", -1 - 6 * room);
      // a sign that can't stand ahead of it counts first
      if (room > 0) reads("4: bad ahead", m, Check::fleet, "1,1-x" + lines("1,1-0", room + 1), -5);
    }
  }

  /** Six LINES have 53 signs at most, so no text comes to a 77th sign with all ahead of it right. */
  private static void fleetLong() {
    String six = lines("15,15ne0", 6);
    reads("4: 53 signs", EdgeTextTest::empty, Check::fleet, six, 6);
    reads("4: 71 signs", EdgeTextTest::empty, Check::fleet, lines("15,15ne0", 8), -55);
    reads("4: 80 signs", EdgeTextTest::empty, Check::fleet, lines("15,15ne0", 9), -55);
    reads("4: 77 signs", EdgeTextTest::empty, Check::fleet, lines("15,15ne0", 9).substring(0, 77), -55);
    reads("4: 76 signs", EdgeTextTest::empty, Check::fleet, lines("15,15ne0", 9).substring(0, 76), -55);
    reads("4: 80 signs, bad ahead", EdgeTextTest::empty, Check::fleet, "1" + lines("15,15ne0", 9).substring(0, 79), -3);
    reads("5: 80 signs", EdgeTextTest::two, Check::gulls, lines("a1", 27), -1 - 3 * 6);
    reads("5: 77 signs", EdgeTextTest::two, Check::gulls, lines("a1", 26), -1 - 3 * 6);
  }

  private static void gullSigns() {
    String whole = "a1;b9;a5";
    beginnings("5:", EdgeTextTest::two, Check::gulls, whole, 0, 0, 2, 1, 5, 2, 8, 3);
    wrongSigns("5:", EdgeTextTest::two, Check::gulls, whole);
    reads("5:", EdgeTextTest::two, Check::gulls, whole + ";", -10);
    reads("5:", EdgeTextTest::two, Check::gulls, ";", -1);
    reads("5:", EdgeTextTest::two, Check::gulls, "a1;;a1", -4);
    for (char pace = '0' - 1; pace <= '9' + 1; pace++) {
      OneGullToABoat x = two();
      boolean can = pace >= '1' && pace <= '9';
      c.is("5: pace " + pace, Check.gulls(x, "a" + pace), can ? 1 : -2);
      if (can) c.is("5: pace " + pace, x.gull(2, 2), pace - '0');
    }
    reads("5: two digits", EdgeTextTest::two, Check::gulls, "a11", -3);
    // a letter of no BOAT: at it, with each number of boats
    for (int there = 0; there <= 6; there++) {
      int boats = there;
      Maker m = () -> { OneGullToABoat x = new OneGullToABoat(); Check.fleet(x, lines("9,9-1", boats)); return x; };
      for (char b = 'a' - 1; b <= 'g'; b++) {
        boolean can = b >= 'a' && b < 'a' + boats;
        reads("5: " + boats + " boats", m, Check::gulls, b + "1", can ? 1 : -1);
        if (boats > 0) reads("5: second line", m, Check::gulls, "a1;" + b + "1", can ? 2 : -4);
      }
    }
  }

  /** At most 8: with each number there already, as many as there is room for, and one more. */
  private static void gullRoom() {
    for (int there = 0; there <= 8; there++) {
      int gulls = there;
      Maker m = () -> { OneGullToABoat x = new OneGullToABoat(); Check.fleet(x, "9,9-1"); Check.gulls(x, lines("a4", gulls)); return x; };
      int room = 8 - there;
      if (room > 0) reads("5: room " + room, m, Check::gulls, lines("a1", room), room);
      for (int more = room + 1; more <= 9; more++) {
        OneGullToABoat x = m.make();
        c.is("5: no room", Check.gulls(x, lines("a1", more)), -1 - 3 * room);
        c.is("5: no room, nothing comes", x.count(1), there);
        for (int g = 0; g < there; g++) c.gull(x, g, 0, 1, 4, 0, 0, 0, 0, -1);
      }
      reads("5: no room, x", m, Check::gulls, room > 0 ? lines("a1", room) + ";x" : "x", -1 - 3 * room);
      if (room > 0) reads("5: no room, end", m, Check::gulls, lines("a1", room) + ";", -1 - 3 * room);
      if (room > 0) reads("5: bad ahead", m, Check::gulls, "a0;" + lines("a1", room + 1), -2);
    }
  }

  private static void ruleSigns() {
    String whole = "7*(p+12)-h/d<w+-s";
    beginnings("6:", EdgeTextTest::two, Check::rule, whole, 0, 0, 1, 0, 8, 0, 10, 0, 12, 0, 14, 0, 17, 0);
    wrongSigns("6:", EdgeTextTest::two, Check::rule, whole);
    wrongSigns("6:", EdgeTextTest::two, Check::rule, "((g=l)>3)");
    beginnings("6:", EdgeTextTest::two, Check::rule, "((g=l)>3)", 0, 0, 9, 0);
    // of letters these alone: p h d w s g l; of all signs these can begin a rule
    for (int sign = 0; sign < 256; sign++) {
      boolean thing = "phdwsgl0123456789".indexOf(sign) >= 0;
      boolean opens = sign == '-' || sign == '(';
      reads("6: first", EdgeTextTest::two, Check::rule, "" + (char) sign, thing ? 0 : opens ? -2 : -1);
      // and these can stand behind a thing
      boolean goesOn = "<>=+-*/".indexOf(sign) >= 0;
      reads("6: second", EdgeTextTest::two, Check::rule, "p" + (char) sign + "h", goesOn ? 0 : -2);
      reads("6: behind )", EdgeTextTest::two, Check::rule, "(p)" + (char) sign + "h", goesOn ? 0 : -4);
      // and behind a digit: digits too
      boolean digit = sign >= '0' && sign <= '9';
      reads("6: behind a digit", EdgeTextTest::two, Check::rule, "7" + (char) sign, digit ? 0 : goesOn ? -3 : -2);
    }
  }

  private static void ruleParts() {
    // a NUMBER of 1 to 3 digits
    String[] numbers = {"0", "9", "00", "99", "000", "999", "0000", "1000", "p+1000", "(1000)", "9999999"};
    int[] want = {0, 0, 0, 0, 0, 0, -4, -4, -6, -5, -4};
    for (int i = 0; i < numbers.length; i++) reads("6:", EdgeTextTest::two, Check::rule, numbers[i], want[i]);
    // at most 4 in one another; behind one another any many
    for (int n = 0; n <= 12; n++) {
      String s = "(".repeat(n) + "p" + ")".repeat(n);
      reads("6: " + n + " in one another", EdgeTextTest::two, Check::rule, s, n <= 4 ? 0 : -5);
      reads("6: behind one", EdgeTextTest::two, Check::rule, "(p)*" + s, n <= 4 ? 0 : -9);
      reads("6: in the second half", EdgeTextTest::two, Check::rule, "p<-" + s, n <= 4 ? 0 : -8);
    }
    reads("6: six, one behind the other", EdgeTextTest::two, Check::rule, "(p)+(p)+(p)+(p)+(p)+(p)", 0);
    reads("6: 4 and 4", EdgeTextTest::two, Check::rule, "(((p+(h)))-(((h))))", 0);
    reads("6: 4 and 5", EdgeTextTest::two, Check::rule, "(((p+(h)))-((((h)))))", -15);
    reads("6: a ) more", EdgeTextTest::two, Check::rule, "((p)))", -6);
    reads("6: a ) less", EdgeTextTest::two, Check::rule, "((p)", -5);
    reads("6: none in ( )", EdgeTextTest::two, Check::rule, "()", -2);
    // < > = not one behind the other, but in ( ) each anew
    for (char a : "<>=".toCharArray()) {
      reads("6: two", EdgeTextTest::two, Check::rule, "p" + a + "h", 0);
      reads("6: its end", EdgeTextTest::two, Check::rule, "p" + a, -3);
      reads("6: none ahead", EdgeTextTest::two, Check::rule, a + "p", -1);
      for (char b : "<>=".toCharArray()) {
        reads("6: one behind the other", EdgeTextTest::two, Check::rule, "p" + a + "h" + b + "d", -4);
        reads("6: one behind the other, far", EdgeTextTest::two, Check::rule, "p" + a + "h+1*2" + b + "d", -8);
        reads("6: in ( )", EdgeTextTest::two, Check::rule, "(p" + a + "h" + b + "d)", -5);
        reads("6: at once", EdgeTextTest::two, Check::rule, "p" + a + b + "d", -3);
        reads("6: ( ) ahead", EdgeTextTest::two, Check::rule, "(p" + a + "h)" + b + "d", 0);
        reads("6: ( ) behind", EdgeTextTest::two, Check::rule, "p" + a + "(h" + b + "d)", 0);
        reads("6: ( ) on both sides", EdgeTextTest::two, Check::rule, "(p<h)" + a + "(h" + b + "d)", 0);
      }
    }
    // - ahead of a thing, any many; no other sign there
    for (int n = 0; n <= 39; n++) reads("6: " + n + " times -", EdgeTextTest::two, Check::rule, "-".repeat(n) + "p", 0);
    reads("6: 40 times -", EdgeTextTest::two, Check::rule, "-".repeat(40), -41);
    reads("6: 39 times -", EdgeTextTest::two, Check::rule, "-".repeat(39), -40);
    for (char a : "+*/".toCharArray()) {
      reads("6: ahead", EdgeTextTest::two, Check::rule, a + "p", -1);
      reads("6: behind -", EdgeTextTest::two, Check::rule, "-" + a + "p", -2);
      reads("6: behind a sign", EdgeTextTest::two, Check::rule, "p-" + a + "p", -3);
      reads("6: - behind it", EdgeTextTest::two, Check::rule, "p" + a + "-p", 0);
    }
  }

  private static void ruleLong() {
    // the first 40 could end, or could go on, in each way: at 40 then, whatever comes
    String[] forty = {"p" + "+p".repeat(19) + "+", "p" + "+p".repeat(18) + "+77", "-".repeat(39) + "p",
        "(((" + "p" + "+p".repeat(18), "p" + "*h".repeat(18) + "<-(", "p" + "+h".repeat(18) + "+99",
        "((((" + "p" + "+p".repeat(15) + "))))-"};
    boolean[] ends = {false, true, true, false, false, true, false};
    for (int i = 0; i < forty.length; i++) {
      c.is("6: forty " + forty[i], forty[i].length(), 40);
      reads("6: 40 signs", EdgeTextTest::two, Check::rule, forty[i], ends[i] ? 0 : -41);
      for (String more : new String[] {"p", "1", "-", ")", "x", "+p", "p".repeat(40)}) {
        reads("6: more", EdgeTextTest::two, Check::rule, forty[i] + more, -41);
      }
    }
    // a sign that can't stand among the first 40 counts first
    String bad = "p" + "+p".repeat(19) + "x";
    reads("6: bad at 39", EdgeTextTest::two, Check::rule, bad, -40);
    reads("6: bad at 39, and more", EdgeTextTest::two, Check::rule, bad + "ppp", -40);
    reads("6: 39 and a ) too many", EdgeTextTest::two, Check::rule, "p" + "+p".repeat(19) + ")p", -40);
    // the refused rule is not flown by, nor a part of it
    OneGullToABoat x = Check.sea("15,15-0", "a5");
    x.send(0, -1);
    Check.rule(x, "7");
    Check.rule(x, "9+");
    Check.rule(x, forty[1] + "1");
    x.heads(0);
    c.row("6: the rule stays", x, 0, 7);
    c.is("6: an empty one: none", Check.rule(x, ""), 0);
    x.heads(0);
    c.row("6: an empty one: none", x, 0, 4);
  }

  /** Its first ACT can't be done, so that of days that can stand nothing is done: 0. */
  private static void daySigns() {
    String whole = "f9;h3;wa;s01;s1-;pb5;cf;o0;h";
    beginnings("20:", EdgeTextTest::two, Check::day, whole, 0, 0, 2, 0, 4, 0, 5, 0, 8, 0, 12, 0, 16, 0, 20, 0, 23, 0, 26, 0, 28, 0);
    wrongSigns("20:", EdgeTextTest::two, Check::day, whole);
    reads("20:", EdgeTextTest::two, Check::day, whole + ";", -30);
    reads("20:", EdgeTextTest::two, Check::day, ";", -1);
    reads("20:", EdgeTextTest::two, Check::day, "f9;;h", -4);
    reads("20:", EdgeTextTest::two, Check::day, ";h", -1);
    for (int sign = 0; sign < 256; sign++) {
      boolean act = "wspcfo".indexOf(sign) >= 0;
      reads("20: act", EdgeTextTest::two, Check::day, "f9;" + (char) sign, sign == 'h' ? 0 : act ? -5 : -4);
    }
  }

  private static void dayParts() {
    for (int sign = '0' - 1; sign <= '9' + 1; sign++) {
      char s = (char) sign;
      boolean digit = s >= '0' && s <= '9';
      boolean oneToNine = s >= '1' && s <= '9';
      reads("20: h", EdgeTextTest::two, Check::day, "f9;h" + s, s == ';' ? -6 : oneToNine ? 0 : -5);
      reads("20: s, a gull", EdgeTextTest::two, Check::day, "f9;s" + s + "0", digit ? 0 : -5);
      reads("20: s, a letter", EdgeTextTest::two, Check::day, "f9;s0" + s, digit ? 0 : -6);
      reads("20: f", EdgeTextTest::two, Check::day, "f9;f" + s, digit ? 0 : -5);
      reads("20: o", EdgeTextTest::two, Check::day, "f9;o" + s, digit ? 0 : -5);
      reads("20: p, a hull", EdgeTextTest::two, Check::day, "f9;pa" + s, s >= '0' && s <= '5' ? 0 : -6);
      reads("20: h and two", EdgeTextTest::two, Check::day, "f9;h1" + s, -6);
      reads("20: f and two", EdgeTextTest::two, Check::day, "f9;f1" + s, -6);
      reads("20: s and three", EdgeTextTest::two, Check::day, "f9;s11" + s, -7);
      reads("20: s, - and one", EdgeTextTest::two, Check::day, "f9;s1-" + s, -7);
      reads("20: p and two", EdgeTextTest::two, Check::day, "f9;pa5" + s, -7);
      reads("20: w and one", EdgeTextTest::two, Check::day, "f9;wa" + s, -6);
    }
    reads("20: s, - for a gull", EdgeTextTest::two, Check::day, "f9;s-0", -5);
    // letters a .. f, whether there or not
    for (char b = 'a' - 1; b <= 'g'; b++) {
      boolean can = b >= 'a' && b <= 'f';
      reads("20: w", EdgeTextTest::two, Check::day, "f9;w" + b, can ? 0 : -5);
      reads("20: c", EdgeTextTest::two, Check::day, "f9;c" + b, can ? 0 : -5);
      reads("20: p", EdgeTextTest::two, Check::day, "f9;p" + b + "0", can ? 0 : -5);
      boolean there = b == 'a' || b == 'b';
      if (can) reads("20: w done", EdgeTextTest::two, Check::day, "w" + b + ";h", there ? 2 : 0);
      if (can) reads("20: c done", EdgeTextTest::two, Check::day, "c" + b + ";h", there ? 2 : 0);
      if (can) reads("20: p done", EdgeTextTest::two, Check::day, "p" + b + "5;h", there ? 2 : 0);
    }
    for (int n = 1; n <= 9; n++) {
      OneGullToABoat x = two();
      c.is("20: h" + n, Check.day(x, "h" + n), 1);
      c.is("20: h" + n + ": now", x.count(3), n);
    }
    OneGullToABoat x = two();
    c.is("20: h", Check.day(x, "h"), 1);
    c.is("20: h: now", x.count(3), 1);
  }

  private static void dayLong() {
    // 60 signs that can end, that could go on in each way, and more
    String[] sixty = {"h" + ";h".repeat(29) + "2", "h1" + ";h".repeat(29), "h" + ";h".repeat(29) + ";",
        "h" + ";h".repeat(28) + ";wa", "h" + ";h".repeat(28) + "1;s", "h" + ";h".repeat(28) + ";s0",
        "h" + ";h".repeat(28) + ";pa"};
    int[] want = {30, 30, -61, 30, -61, -61, -61};
    for (int i = 0; i < sixty.length; i++) {
      c.is("20: sixty " + sixty[i], sixty[i].length(), 60);
      OneGullToABoat x = two();
      c.is("20: 60 signs", Check.day(x, sixty[i]), want[i]);
      if (want[i] < 0) c.is("20: nothing is done", x.count(3), 0);
      for (String more : new String[] {";", "h", "1", "0", "-", "x", ";h", ";h;h;h;h;h;h;h;h;h;h"}) {
        OneGullToABoat y = two();
        c.is("20: more than 60", Check.day(y, sixty[i] + more), -61);
        c.is("20: more than 60, nothing is done", y.count(3), 0);
        c.is("20: more than 60, the text is empty then", y.count(12), 0);
      }
    }
    String bad = "h" + ";h".repeat(29) + "x";
    reads("20: bad at 59", EdgeTextTest::two, Check::day, bad, -60);
    reads("20: bad at 59, and more", EdgeTextTest::two, Check::day, bad + ";h", -60);
  }

  private static void wordSigns() {
    Reader r = (x, s) -> Check.codes(x, s, 1);
    String whole = "098765432109";
    for (int n = 0; n <= 12; n++) reads("39:", EdgeTextTest::empty, r, whole.substring(0, n), n == 0 ? -1 : n);
    wrongSigns("39:", EdgeTextTest::empty, r, whole);
    for (String more : new String[] {"1", "x", "12", "1".repeat(68)}) reads("39:", EdgeTextTest::empty, r, whole + more, -13);
    for (int p = 0; p < 12; p++) {
      reads("39: /", EdgeTextTest::empty, r, whole.substring(0, p) + "/", -1 - p);
      reads("39: :", EdgeTextTest::empty, r, whole.substring(0, p) + ":", -1 - p);
    }
  }
}
