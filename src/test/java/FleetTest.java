/** Promises 1 to 11: a new object, texts, the fleet, the gulls, the rule, weather and the sheet. */
public final class FleetTest {
  private static final Check c = new Check();

  public static void main(String[] args) {
    newObject();
    sign();
    end();
    fleet();
    gulls();
    rule();
    ruleReckons();
    ruleThings();
    boat();
    gull();
    letter();
    weather();
    sheet();
    c.end("FleetTest");
  }

  private static void newObject() {
    OneGullToABoat x = new OneGullToABoat();
    for (int i = 0; i <= 12; i++) c.is("1: count(" + i + ")", x.count(i), 0);
    c.is("1: NONE", OneGullToABoat.NONE, -1);
    c.noBoat(x, 0, 0);
    c.noGull(x, 0, 0);
    c.noLetter(x, 0, 0);
    c.noRow("1", x, 0);
    c.is("1: undo", x.undo(), -1);
  }

  private static void sign() {
    OneGullToABoat x = new OneGullToABoat();
    c.is("2: first", x.sign('3' << 24 | ',' << 16 | '4' << 8 | 'n'), 4);
    c.is("2: second", x.sign('e' << 24 | '5' << 16), 8);
    x.end(6);
    c.is("2: highest byte first", x.fleet(), 1);
    c.boat(x, 0, 3, 4, 1, -1, 5);
    for (int i = 1; i <= 20; i++) c.is("2: grows", x.sign(-1), 4 * i);
    c.is("2: more than 80", x.sign(0), -1);
    c.is("2: refused, nothing changes", x.count(12), 80);
    x.end(77);
    c.is("2: 77 and 4", x.sign(0), -1);
    x.end(76);
    c.is("2: 76 and 4", x.sign(0), 80);
  }

  private static void end() {
    OneGullToABoat x = new OneGullToABoat();
    x.sign(0x61626364);
    c.is("3: not so many", x.end(5), false);
    c.is("3: below 0", x.end(-1), false);
    c.is("3: stays", x.count(12), 4);
    c.is("3: all", x.end(4), true);
    c.is("3: some", x.end(2), true);
    c.is("3: cut", x.count(12), 2);
    c.is("3: what is cut is gone", x.end(4), false);
    c.is("3: none", x.end(0), true);
    c.is("3: empty", x.count(12), 0);
  }

  private static void fleet() {
    OneGullToABoat x = new OneGullToABoat();
    c.is("4: empty", Check.fleet(x, ""), 0);
    String[] bad = {"x", "1", "16,1-0", "99", "1,", "1,16-0", "1,1", "1,1x", "1,1-", "1,1-6", "1,1ne", "1,1nn0",
        "1,1en0", "1,1-e0", "1,1-00", "1,1-0;", "123,1-0", ";", "1,1-0;;", "1,1ns0", "1;1-0", ",1-0"};
    int[] at = {0, 1, 1, 1, 2, 3, 3, 3, 4, 4, 5, 4, 4, 4, 5, 6, 2, 0, 6, 4, 1, 0};
    for (int i = 0; i < bad.length; i++) c.is("4: " + bad[i], Check.fleet(x, bad[i]), -1 - at[i]);
    String[] strange = {":,1-0", "1:,1-0", "1,:-0", "1,150", "1,1-:", "/", "1,1e", "1,1n;"};
    int[] there = {0, 1, 2, 4, 4, 0, 4, 4};
    for (int i = 0; i < strange.length; i++) c.is("4: " + strange[i], Check.fleet(x, strange[i]), -1 - there[i]);
    c.is("4: nothing came", x.count(0), 0);
    c.is("4: a line can't, none comes", Check.fleet(x, "1,1-0;2,2x0"), -10);
    c.is("4: nothing came", x.count(0), 0);
    c.is("4: the text is empty then", x.count(12), 0);
    c.is("4: courses", Check.fleet(x, "15,0n0;0,15s1;00,07e2;09,10w3"), 4);
    c.boat(x, 0, 15, 0, 0, -1, 0, 0, 0);
    c.boat(x, 1, 0, 15, 0, 1, 1, 0, 0);
    c.boat(x, 2, 0, 7, 1, 0, 2, 0, 0);
    c.boat(x, 3, 9, 10, -1, 0, 3, 0, 0);
    c.is("4: no room for the third", Check.fleet(x, "1,1-0;2,2-0;3,3-0"), -13);
    c.is("4: none came", x.count(0), 4);
    c.is("4: two more", Check.fleet(x, "1,2sw4;3,4se5"), 2);
    c.boat(x, 4, 1, 2, -1, 1, 4);
    c.boat(x, 5, 3, 4, 1, 1, 5);
    c.is("4: full", Check.fleet(x, "1,1-0"), -1);
    c.is("4: full, a bad sign", Check.fleet(x, "x"), -1);
    c.is("4: full, empty", Check.fleet(x, ""), 0);
    OneGullToABoat z = new OneGullToABoat();
    Check.fleet(z, "9,8nw5x");
    Check.fleet(z, "7,6-0");
    c.boat(z, 0, 7, 6, 0, 0, 0, 0, 0);
    Check.fleet(z, "9,8nw5x");
    Check.fleet(z, "7,6e0");
    c.boat(z, 1, 7, 6, 1, 0, 0, 0, 0);
    Check.fleet(z, "9,8nw5x");
    Check.fleet(z, "7,6s0");
    c.boat(z, 2, 7, 6, 0, 1, 0, 0, 0);
    OneGullToABoat y = new OneGullToABoat();
    c.is("4: seventh line at its end", Check.fleet(y, "1,1-0;1,1-0;1,1-0;1,1-0;1,1-0;1,1-0;"), -37);
    StringBuilder s = new StringBuilder("1,1-0");
    while (s.length() < 80) s.append('0');
    c.is("4: the first bad sign, not the length", Check.fleet(y, s.toString()), -6);
    c.is("4: six", Check.fleet(y, "15,15ne0;15,15ne0;15,15ne0;15,15ne0;15,15ne0;15,15ne0"), 6);
  }

  private static void gulls() {
    OneGullToABoat x = new OneGullToABoat();
    c.is("5: no boat", Check.gulls(x, "a1"), -1);
    Check.fleet(x, "3,3-4;5,5-2");
    String[] bad = {"x", "c1", "a", "a0", "a12", "a1;", "a1;c1", "1", ";", "A1", "a1,b1"};
    int[] at = {0, 0, 1, 1, 2, 3, 3, 0, 0, 0, 2};
    for (int i = 0; i < bad.length; i++) c.is("5: " + bad[i], Check.gulls(x, bad[i]), -1 - at[i]);
    c.is("5: a:", Check.gulls(x, "a:"), -2);
    c.is("5: the ninth at its end", Check.gulls(x, "a1;a1;a1;a1;a1;a1;a1;a1;"), -25);
    c.is("5: the ninth", Check.gulls(x, "a1;a1;a1;a1;a1;a1;a1;a1;a1"), -25);
    c.is("5: none came", x.count(1), 0);
    c.is("5: empty", Check.gulls(x, ""), 0);
    c.is("5: one", Check.gulls(x, "b9"), 1);
    c.gull(x, 0, 1, 2, 9, 0, 0, 0, 0, -1);
    x.paint(0, 1);
    c.is("5: hull as it is now", Check.gulls(x, "a1;b2;a3;b4;a5;b6"), 6);
    c.gull(x, 1, 0, 1, 1, 0, 0, 0, 0, -1);
    c.is("5: no room for the second", Check.gulls(x, "a1;a1"), -4);
    c.is("5: eighth", Check.gulls(x, "b1"), 1);
    c.is("5: full", Check.gulls(x, "b1"), -1);
    c.is("5: eight", x.count(1), 8);
  }

  private static void rule() {
    OneGullToABoat x = Check.sea("9,9-0", "a5");
    String[] bad = {"z", "p+", "p<h<d", "p=h>d", "(p", "(((((p", "1000", ")", "()", "p)", "p(", "*p", "p-*h", "2p",
        "pp", "(p<h<d)", "(p))", "--", "p <h", "+p", "12a"};
    int[] at = {0, 2, 3, 3, 2, 4, 3, 0, 1, 1, 1, 0, 2, 1, 1, 4, 3, 2, 1, 0, 2};
    for (int i = 0; i < bad.length; i++) c.is("6: " + bad[i], Check.rule(x, bad[i]), -1 - at[i]);
    c.is("6: :", Check.rule(x, ":"), -1);
    c.is("6: 1:", Check.rule(x, "1:"), -2);
    c.is("6: 12:", Check.rule(x, "12:"), -3);
    c.is("6: p/:", Check.rule(x, "p/:"), -3);
    String forty = "1+1+1+1+1+1+1+1+1+1+1+1+1+1+1+1+1+1+1+10";
    c.is("6: 40 signs", Check.rule(x, forty), 0);
    c.is("6: 41 signs", Check.rule(x, forty + "1"), -41);
    c.is("6: 41 signs, any", Check.rule(x, forty + "x"), -41);
    c.is("6: 42 signs, bad ahead", Check.rule(x, "p+x" + forty), -3);
    c.is("6: 40 signs that end too early", Check.rule(x, forty.substring(0, 39) + "+"), -41);
    x.send(0, -1);
    x.heads(0);
    c.row("6: the refused leave the rule", x, 0, 18);
    c.is("6: 4 in one another", Check.rule(x, "((((7))))"), 0);
    c.is("6: again behind it", Check.rule(x, "((((7))))+((((1))))"), 0);
    c.is("6: empty is none", Check.rule(x, ""), 0);
    x.heads(0);
    c.row("6: p-(h<1)", x, 0, 4);
    x.halves(1);
    x.heads(0);
    c.row("6: p-(h<1), hungry", x, 0, 5);
  }

  /** How many cells a gull would fly that is 30 from its boat. */
  private static void reckons(OneGullToABoat x, String rule, int want) {
    c.is("6: " + rule, Check.rule(x, rule), 0);
    c.is("6: heads", x.heads(0), 30);
    c.row("6: " + rule, x, 0, want);
  }

  private static void ruleReckons() {
    OneGullToABoat x = Check.sea("15,15-0", "a5");
    x.send(0, -1);
    reckons(x, "7", 7);
    reckons(x, "007", 7);
    reckons(x, "12", 12);
    reckons(x, "129/10", 12);
    reckons(x, "3=4", 0);
    reckons(x, "2+3*4", 14);
    reckons(x, "(2+3)*4", 20);
    reckons(x, "20-3-4", 13);
    reckons(x, "20-(3-4)", 21);
    reckons(x, "20/3/2", 3);
    reckons(x, "20/3*2", 12);
    reckons(x, "20*3/2", 30);
    reckons(x, "9/0", 0);
    reckons(x, "5+9/0", 5);
    reckons(x, "10+-7/2", 7);
    reckons(x, "10+7/-2", 7);
    reckons(x, "--7", 7);
    reckons(x, "---7", 0);
    reckons(x, "10-----7", 3);
    reckons(x, "9--7", 16);
    reckons(x, "2*-3+9", 3);
    reckons(x, "-3*-4", 12);
    reckons(x, "1+2<4", 1);
    reckons(x, "4<1+2", 0);
    reckons(x, "4>1+2", 1);
    reckons(x, "3=1+2", 1);
    reckons(x, "3<3", 0);
    reckons(x, "3>3", 0);
    reckons(x, "(1<2)=(3<4)", 1);
    reckons(x, "7*(2>1)+(1>2)", 7);
    reckons(x, "99", 30);
    reckons(x, "0-5", 0);
    reckons(x, "999*999*999*999*999*0+8", 8);
    reckons(x, "(999*999*999<0)*9+(999*999*2>0)", 10 - (999 * 999 * 999 < 0 ? 0 : 9));
    reckons(x, "512*512*512*16-1", 30);
    reckons(x, "512*512*512*16/-1+5", 0);
  }

  private static void ruleThings() {
    OneGullToABoat x = Check.sea("9,1-0;4,2-0", "b7;a3;b5");
    Check.rule(x, "p");
    x.write(0);
    x.send(1, 0);
    x.send(2, -1);
    x.heads(1);
    c.row("6: p", x, 0, 3);
    x.sheet(2, 8, 2, 1);
    Check.rule(x, "h");
    x.heads(1);
    c.row("6: h", x, 0, 3);
    x.heads(2);
    c.row("6: h of another", x, 1, 4);
    Check.rule(x, "d-1");
    x.heads(1);
    c.row("6: d", x, 0, 9);
    x.heads(2);
    c.row("6: d of another", x, 1, 5);
    x.weather(0, 6);
    Check.rule(x, "w");
    x.heads(1);
    c.row("6: w", x, 0, 6);
    Check.rule(x, "g+1");
    x.heads(1);
    c.row("6: g", x, 0, 2);
    x.heads(2);
    c.row("6: g of another", x, 1, 3);
    Check.rule(x, "l+1");
    x.heads(1);
    c.row("6: l with a letter", x, 0, 2);
    x.heads(2);
    c.row("6: l without", x, 1, 1);
    Check.rule(x, "s");
    x.heads(1);
    c.row("6: s at first", x, 0, 0);
    x.half();
    c.is("6: in half hour 0 none fly", x.gull(1, 4), 0);
    x.half();
    c.is("6: in half hour 1 they fly 1", x.gull(1, 4), 1);
    x.half();
    c.is("6: in half hour 2 they fly 2", x.gull(1, 4), 3);
  }

  private static void boat() {
    OneGullToABoat x = Check.sea("4,3nw5", "a9");
    c.boat(x, 0, 4, 3, -1, -1, 5, 0, 0);
    x.chum(0, 1);
    x.paint(0, 2);
    c.boat(x, 0, 4, 3, -1, -1, 2, 1, 0);
    x.paint(0, 5);
    x.write(0);
    x.write(0);
    x.send(0, 1);
    x.halves(1);
    c.boat(x, 0, 3, 2, -1, -1, 5, 1, 2);
    c.noBoat(x, 1, 0);
    c.noBoat(x, -1, 0);
    c.noBoat(x, 0, 7);
    c.noBoat(x, 0, -1);
    c.noBoat(x, 1, 7);
    // both parts turn round where the sea ends, without moving in that part
    x.halves(2);
    c.boat(x, 0, 1, 0, -1, -1);
    x.half();
    c.boat(x, 0, 0, 0, -1, 1);
    x.half();
    c.boat(x, 0, 0, 1, 1, 1);
    x.half();
    c.boat(x, 0, 1, 2, 1, 1);
    OneGullToABoat y = Check.sea("14,15se0", "a1");
    y.half();
    c.boat(y, 0, 15, 15, 1, -1);
    y.half();
    c.boat(y, 0, 15, 14, -1, -1);
  }

  private static void gull() {
    OneGullToABoat x = Check.sea("4,3-5;9,9-1", "a2;b9");
    c.gull(x, 0, 0, 5, 2, 0, 0, 0, 0, -1);
    x.write(0);
    x.send(0, 0);
    c.gull(x, 0, 0, 5, 2, 0, 0, 0, 1, 0);
    x.half();
    c.gull(x, 0, 0, 5, 2, 1, 1, 0, 1, 0);
    x.halves(2);
    c.gull(x, 0, 0, 5, 2, 3, 4, 1, 1, 0);
    x.half();
    c.gull(x, 0, 0, 5, 2, 0, 0, 0, 0, -1);
    x.paint(0, 0);
    c.is("8: the hull it looks for stays", x.gull(0, 1), 5);
    c.noGull(x, 2, 0);
    c.noGull(x, -1, 0);
    c.noGull(x, 0, 8);
    c.noGull(x, 0, -1);
    Check.rule(x, "0");
    x.sheet(2, 8, 9, 0);
    x.send(1, -1);
    x.half();
    c.gull(x, 1, 1, 1, 9, 9, 0, 0, 2, -1);
  }

  private static void letter() {
    OneGullToABoat x = Check.sea("4,3-5;9,9-1", "a9;b9");
    x.write(1);
    c.letter(x, 0, 1, 0, -1);
    x.send(0, 0);
    c.letter(x, 0, 1, 1, 0);
    x.half();
    c.letter(x, 0, 1, 2, 0);
    x.write(1);
    x.send(1, 1);
    x.sheet(2, 8, 9, 0);
    x.half();
    c.letter(x, 1, 1, 3, -1);
    x.write(0);
    x.send(0, 2);
    x.paint(0, 0);
    x.half();
    c.letter(x, 2, 0, 0, -1);
    c.noLetter(x, 3, 0);
    c.noLetter(x, -1, 0);
    c.noLetter(x, 0, 3);
    c.noLetter(x, 0, -1);
  }

  private static void weather() {
    OneGullToABoat x = new OneGullToABoat();
    c.is("10: wind", x.weather(0, 9), 0);
    c.is("10: wind again", x.weather(0, 3), 9);
    c.is("10: storm", x.weather(1, 1), 0);
    c.is("10: storm again", x.weather(1, 1), 1);
    c.is("10: wind stands", x.count(4), 3);
    c.is("10: storm stands", x.count(5), 1);
    c.is("10: wind 10", x.weather(0, 10), -1);
    c.is("10: wind -1", x.weather(0, -1), -1);
    c.is("10: storm 2", x.weather(1, 2), -1);
    c.is("10: storm -1", x.weather(1, -1), -1);
    c.is("10: what 2", x.weather(2, 0), -1);
    c.is("10: what -1", x.weather(-1, 0), -1);
    c.is("10: wind stays", x.count(4), 3);
    c.is("10: storm stays", x.count(5), 1);
  }

  private static void hunger(OneGullToABoat x, String call, int... want) {
    for (int g = 0; g < want.length; g++) c.is("11: " + call + " gull " + g, x.gull(g, 3), want[g]);
  }

  private static void sheet() {
    OneGullToABoat x = Check.sea("15,15-0", "a1;a1;a1;a1");
    c.is("11: ints", x.sheet(2, 4, 1, 3), 1 + 4 + 7 + 9);
    hunger(x, "ints", 1, 4, 7, 9);
    c.is("11: behind it 0", x.sheet(2, 2, 5, -6), 5);
    hunger(x, "behind it", 5, 0, 0, 0);
    c.is("11: bytes keep the lowest bits", x.sheet(0, 3, 256 + 4, 124), 4);
    hunger(x, "bytes", 4, 0, 0, 0);
    c.is("11: bytes with their sign", x.sheet(0, 2, 127, 1), 9);
    c.is("11: shorts", x.sheet(1, 4, 65536 + 3, 32764), 3 + 9 + 0 + 9);
    hunger(x, "shorts", 3, 9, 0, 9);
    c.is("11: shorts are no bytes", x.sheet(1, 1, 256, 0), 9);
    c.is("11: ints are no shorts", x.sheet(2, 1, 65536, 0), 9);
    c.is("11: ints wrap", x.sheet(2, 2, Integer.MAX_VALUE, 1), 9);
    hunger(x, "wrapped", 9, 0);
    c.is("11: none of them", x.sheet(2, 0, 9, 9), 0);
    x.sheet(2, 8, 5, 0);
    c.is("11: below 0", x.sheet(2, -1, 1, 1), -2);
    c.is("11: another kind", x.sheet(4, 1, 1, 1), -1);
    c.is("11: another kind first", x.sheet(4, -1, 1, 1), -1);
    c.is("11: kind -1", x.sheet(-1, 1, 1, 1), -1);
    c.is("11: n 9", x.sheet(2, 9, 1, 1), -1);
    c.is("11: missing, n 9", x.sheet(3, 9, 1, 1), -1);
    hunger(x, "nothing changed", 5, 5, 5, 5);
    c.is("11: missing, n -1", x.sheet(3, -1, 1, 1), -3);
    hunger(x, "missing", 0, 0, 0, 0);
    x.sheet(2, 2, 0, 9);
    x.send(1, -1);
    x.half();
    c.is("11: dead", x.gull(1, 6), 2);
    c.is("11: a dead one has an entry, but keeps its own", x.sheet(2, 8, 1, 1), 1 + 3 + 4);
    hunger(x, "dead", 1, 9, 3, 4);
    x.sheet(3, 0, 0, 0);
    hunger(x, "dead, missing", 0, 9, 0, 0);
  }
}
