/** The edges of Terms 1 (the sea, hunger, chum, storms, the half hour) and of promises 10 to 21. */
public final class EdgeSeaTest {
  private static final Check c = new Check();
  private static final int MIN = Integer.MIN_VALUE;
  private static final int MAX = Integer.MAX_VALUE;

  public static void main(String[] args) {
    atFirst();
    turningRound();
    flight();
    flightBack();
    flightToAndFro();
    rulePutTo();
    ruleAsInts();
    hunger();
    hungerAshore();
    chumNearAndFar();
    chumWhich();
    storms();
    metAtOnce();
    weather();
    sheetEntries();
    sheetLengths();
    write();
    send();
    paintChumFeed();
    halfRow();
    halves();
    dayTillOneCant();
    dayRow();
    undoTwelve();
    undone();
    c.end("EdgeSeaTest");
  }

  private static void atFirst() {
    OneGullToABoat x = Check.sea("15,15-5;0,0-0", "a1;b9");
    c.boat(x, 0, 15, 15, 0, 0, 5, 0, 0);
    c.boat(x, 1, 0, 0, 0, 0, 0, 0, 0);
    c.gull(x, 0, 0, 5, 1, 0, 0, 0, 0, -1);
    c.gull(x, 1, 1, 0, 9, 0, 0, 0, 0, -1);
    c.is("t1: now", x.count(3), 0);
    c.is("t1: wind", x.count(4), 0);
    c.is("t1: storm", x.count(5), 0);
    // the rule at first: p-(h<1)
    x.send(0, -1);
    x.heads(0);
    c.row("t1: pace 1, not hungry", x, 0, 0);
    x.sheet(2, 2, 1, 0);
    x.heads(0);
    c.row("t1: pace 1, hunger 1", x, 0, 1);
    // the hull it looks for is that of its boat when it is told, not later
    x.paint(0, 2);
    Check.gulls(x, "a1");
    c.is("t1: told ahead", x.gull(0, 1), 5);
    c.is("t1: told behind", x.gull(2, 1), 2);
  }

  /** Each course at each side and in each corner, and a cell off it. */
  private static void turningRound() {
    String[] courses = {"-", "n", "e", "s", "w", "ne", "nw", "se", "sw"};
    int[] dx = {0, 0, 1, 0, -1, 1, -1, 1, -1};
    int[] dy = {0, -1, 0, 1, 0, -1, -1, 1, 1};
    int[] places = {0, 1, 7, 14, 15};
    for (int i = 0; i < courses.length; i++) {
      for (int x : places) {
        for (int y : places) {
          OneGullToABoat sea = Check.sea(x + "," + y + courses[i] + "0", "a1");
          boolean turnX = x == 0 && dx[i] == -1 || x == 15 && dx[i] == 1;
          boolean turnY = y == 0 && dy[i] == -1 || y == 15 && dy[i] == 1;
          int toX = turnX ? x : x + dx[i];
          int toY = turnY ? y : y + dy[i];
          c.is("t1: where", sea.where(0, 1), 16 * toY + toX);
          c.row("t1: where", sea, turnX ? -dx[i] : dx[i], turnY ? -dy[i] : dy[i]);
          sea.half();
          c.boat(sea, 0, toX, toY, turnX ? -dx[i] : dx[i], turnY ? -dy[i] : dy[i], 0, 0, 0);
        }
      }
    }
    // there and back again: 16 half hours from side to side, as a half hour goes by in turning
    OneGullToABoat x = Check.sea("0,3e0;15,4w0", "a1");
    x.halves(15);
    c.boat(x, 0, 15, 3, 1, 0);
    c.boat(x, 1, 0, 4, -1, 0);
    x.half();
    c.boat(x, 0, 15, 3, -1, 0);
    c.boat(x, 1, 0, 4, 1, 0);
    x.halves(15);
    c.boat(x, 0, 0, 3, -1, 0);
    c.boat(x, 1, 15, 4, 1, 0);
    x.half();
    c.boat(x, 0, 0, 3, 1, 0);
    c.boat(x, 1, 15, 4, -1, 0);
  }

  /** First by x, then by y, as far as the rule tells: short of the boat, just to it, farther. */
  private static void flight() {
    for (int k = 0; k <= 8; k++) {
      OneGullToABoat x = Check.sea("3,2-0", "a1");
      Check.rule(x, "" + k);
      x.send(0, -1);
      x.heads(0);
      c.row("t1: rule " + k, x, 0, Math.min(k, 5));
      c.is("t1: rule " + k, x.half(), k < 5 ? 0 : 1);
      if (k < 5) c.gull(x, 0, 0, 0, 1, 1, Math.min(k, 3), Math.max(0, k - 3), 1, -1);
      else c.gull(x, 0, 0, 0, 1, 0, 0, 0, 0, -1);
    }
  }

  private static void flightBack() {
    for (int k = 0; k <= 14; k++) {
      OneGullToABoat x = Check.sea("9,9-0", "a1");
      Check.rule(x, "12");
      x.write(0);
      x.send(0, 0);
      x.half();
      c.gull(x, 0, 0, 0, 1, 1, 9, 3, 1, 0);
      x.paint(0, 1);
      Check.rule(x, "" + k);
      c.is("t1: back, rule " + k, x.half(), 0);
      c.row("t1: back, rule " + k, x, 0, 0, 0);
      if (k < 12) c.gull(x, 0, 0, 0, 1, 2, 9 - Math.min(k, 9), 3 - Math.max(0, k - 9), 1, 0);
      else c.gull(x, 0, 0, 0, 1, 1, 0, 0, 0, -1);
      c.letter(x, 0, 0, k < 12 ? 1 : 0, k < 12 ? 0 : -1);
    }
  }

  /** Back by x and on by y: from 9,3 to chum at 7,5. */
  private static void flightToAndFro() {
    int[] atX = {9, 8, 7, 7};
    int[] atY = {3, 3, 3, 4};
    for (int k = 0; k <= 5; k++) {
      OneGullToABoat x = Check.sea("9,9-0;7,5-1", "a1");
      Check.rule(x, "12");
      x.send(0, -1);
      x.half();
      x.chum(1, 1);
      x.sheet(2, 1, 6, 0);
      Check.rule(x, "" + k);
      c.is("t1: to and fro, rule " + k, x.half(), k < 4 ? 0 : 1);
      if (k < 4) c.gull(x, 0, 0, 0, 1, 7, atX[k], atY[k], 1, -1);
      else c.gull(x, 0, 0, 0, 1, 0, 0, 0, 0, -1);
    }
  }

  private static void rulePutTo() {
    OneGullToABoat x = Check.sea("15,15-0", "a1");
    x.send(0, -1);
    String[] rules = {"29", "30", "31", "0", "1", "-1", "0-999", "999", "999*999", "29+1", "30+1"};
    int[] want = {29, 30, 30, 0, 1, 0, 0, 30, 30, 30, 30};
    for (int i = 0; i < rules.length; i++) {
      Check.rule(x, rules[i]);
      c.is("t1: far", x.heads(0), 30);
      c.row("t1: " + rules[i], x, 0, want[i]);
    }
    // 30 in a half hour is from corner to corner; 29 is not
    Check.rule(x, "29");
    x.half();
    c.gull(x, 0, 0, 0, 1, 1, 15, 14, 1, -1);
    OneGullToABoat y = Check.sea("15,15-0", "a1");
    Check.rule(y, "999");
    y.send(0, -1);
    c.is("t1: 30", y.half(), 1);
  }

  /** A product of 2 to the 31 wraps around to the least int; this by -1, and - ahead of it, is itself. */
  private static void ruleAsInts() {
    OneGullToABoat x = Check.sea("15,15-0", "a1");
    x.send(0, -1);
    String least = "(512*512*512*16)";
    String[] rules = {least, least + "-1", least + "<0", "-" + least + "<0", least + "/-1<0", "-" + least + "=" + least,
        least + "/0", "5+" + least + "/0", least + "+" + least + "+7", "0/0+3", "7/0*2+4", "7/(3-3)+2", "-7/2+9", "7/-2+9",
        "-7/-2", "-1/2+1", "1/2", least + "/" + least + "+4", "999*999*999*999<0", "(5>5)+(5<5)+(5=5)", "-0+2",
        "(5=4)+3", "(4=5)+3", "(5<4)+3", "(4<5)+3", "(5>4)+3", "(4>5)+3", "(-1<0)+3", "(0>-1)+3"};
    // 999 to the 4th is 996005996001, by 2 to the 32 leaves 3868518753, as an int below 0
    int[] want = {0, 30, 1, 1, 1, 1, 0, 5, 7, 3, 4, 2, 6, 6, 3, 1, 0, 5, 1, 1, 2, 3, 3, 3, 4, 4, 3, 4, 4};
    for (int i = 0; i < rules.length; i++) {
      c.is("t1: " + rules[i], Check.rule(x, rules[i]), 0);
      x.heads(0);
      c.row("t1: " + rules[i], x, 0, want[i]);
    }
  }

  private static void hunger() {
    for (int h = 0; h <= 9; h++) {
      OneGullToABoat x = Check.sea("3,0-0", "a1");
      Check.rule(x, "2");
      x.write(0);
      x.sheet(2, 1, h, 0);
      x.send(0, 0);
      c.is("t1: short of it", x.half(), 0);
      c.row("t1: hunger " + h, x, 0, 0, h == 9 ? 1 : 0);
      c.gull(x, 0, 0, 0, 1, Math.min(9, h + 1), 2, 0, h == 9 ? 2 : 1, h == 9 ? -1 : 0);
      c.letter(x, 0, 0, h == 9 ? 3 : 1, h == 9 ? -1 : 0);
      // just there: hunger 0, even with 9
      OneGullToABoat y = Check.sea("3,0-0", "a1");
      Check.rule(y, "3");
      y.write(0);
      y.sheet(2, 1, h, 0);
      y.send(0, 0);
      c.is("t1: just there", y.half(), 1);
      c.row("t1: just there", y, 1, 1, 0);
      c.gull(y, 0, 0, 0, 1, 0, 0, 0, 0, -1);
      c.letter(y, 0, 0, 2, 0);
    }
    // a dead one neither flies on nor becomes hungrier, whatever comes
    OneGullToABoat z = Check.sea("9,0-0", "a1");
    Check.rule(z, "1");
    z.send(0, -1);
    z.sheet(2, 1, 9, 0);
    z.halves(48);
    c.gull(z, 0, 0, 0, 1, 9, 1, 0, 2, -1);
    z.weather(1, 1);
    c.is("t1: dead in a storm", z.halves(48), 0);
    c.row("t1: it died once", z, 0, 0, 0);
    c.gull(z, 0, 0, 0, 1, 9, 1, 0, 2, -1);
  }

  /** Ashore HUNGER stays, and one with HUNGER 9 that is there is not dead; a cell off it is. */
  private static void hungerAshore() {
    for (int k = 2; k <= 3; k++) {
      OneGullToABoat x = Check.sea("9,0-0", "a1");
      Check.rule(x, "3");
      x.write(0);
      x.send(0, 0);
      x.half();
      x.paint(0, 1);
      x.sheet(2, 1, 9, 0);
      Check.rule(x, "" + k);
      x.half();
      c.row("t1: ashore with 9", x, 0, 0, k == 2 ? 1 : 0);
      c.gull(x, 0, 0, 0, 1, 9, k == 2 ? 1 : 0, 0, k == 2 ? 2 : 0, -1);
      c.letter(x, 0, 0, k == 2 ? 3 : 0, -1);
    }
    // one that rests does not become hungry
    OneGullToABoat y = Check.sea("9,0-0", "a1");
    y.sheet(2, 1, 4, 0);
    y.halves(48);
    c.gull(y, 0, 0, 0, 1, 4, 0, 0, 0, -1);
  }

  /** 4 or nearer, HUNGER 6 or more; how far is reckoned when the boats have gone. */
  private static void chumNearAndFar() {
    for (int far = 3; far <= 5; far++) {
      for (int h = 5; h <= 7; h++) {
        for (int out = 0; out <= 1; out++) {
          OneGullToABoat x = Check.sea("15,15-0;1," + (far - 1) + "-1", "a1");
          Check.rule(x, "5");
          x.chum(1, out);
          x.sheet(2, 1, h, 0);
          x.send(0, -1);
          boolean calls = far <= 4 && h >= 6 && out == 1;
          c.is("t1: heads", x.heads(0), calls ? far : 30);
          c.row("t1: chum " + far + ", hunger " + h, x, calls ? 1 : 0, calls ? far : 5);
          c.is("t1: astray", x.astray(), calls ? 1 : 0);
          c.is("t1: chum " + far + ", hunger " + h, x.half(), calls ? 1 : 0);
        }
      }
    }
    OneGullToABoat y = Check.sea("15,15-0;5,0w1", "a1");
    Check.rule(y, "4");
    y.chum(1, 1);
    y.sheet(2, 1, 6, 0);
    y.send(0, -1);
    y.heads(0);
    c.row("t1: 5 as all is now", y, 0, 4);
    c.is("t1: 4 when it has gone", y.half(), 1);
    OneGullToABoat z = Check.sea("15,15-0;4,0e1", "a1");
    Check.rule(z, "4");
    z.chum(1, 1);
    z.sheet(2, 1, 6, 0);
    z.send(0, -1);
    z.heads(0);
    c.row("t1: 4 as all is now", z, 1, 4);
    c.is("t1: 5 when it has gone", z.half(), 0);
    c.gull(z, 0, 0, 0, 1, 7, 4, 0, 1, -1);
  }

  private static void chumWhich() {
    // the nearest such, of as near ones the first; its own may be one of them, whatever hull
    OneGullToABoat x = Check.sea("0,4-0;2,1-1;1,2-2;0,3-3;0,2-4", "a1");
    x.sheet(2, 1, 6, 0);
    x.send(0, -1);
    x.paint(0, 5);
    int[] sets = {0, 1, 3, 6, 12, 14, 15, 31, 17, 9};
    int[] want = {-1, 0, 1, 1, 2, 1, 1, 4, 4, 3};
    for (int i = 0; i < sets.length; i++) {
      for (int b = 0; b < 5; b++) x.chum(b, sets[i] >> b & 1);
      int far = x.heads(0);
      c.is("t1: chum of " + sets[i], x.row(0), want[i]);
      c.is("t1: chum of " + sets[i], far, new int[] {0, 4, 3, 3, 3, 2}[want[i] + 1]);
    }
    // one with chum goes ahead of its own, though that is nearer and has the hull
    OneGullToABoat y = Check.sea("1,0-0;4,0-1", "a9");
    y.sheet(2, 1, 6, 0);
    y.chum(1, 1);
    y.send(0, -1);
    y.heads(0);
    c.row("t1: chum first", y, 1, 4);
  }

  private static void storms() {
    // of as near ones the first
    OneGullToABoat x = Check.sea("15,15-0;5,0-1;0,5-2;3,2-3", "a1");
    Check.rule(x, "5");
    x.weather(1, 1);
    x.send(0, -1);
    c.is("t1: storm", x.heads(0), 5);
    c.row("t1: storm", x, 1, 5);
    // which is the nearest is reckoned when the boats have gone: 6,0 and 0,5 then
    OneGullToABoat y = Check.sea("15,15-0;5,0e1;0,6n2", "a1");
    Check.rule(y, "5");
    y.weather(1, 1);
    y.write(0);
    y.send(0, 0);
    c.is("t1: as all is now", y.heads(0), 5);
    c.row("t1: as all is now", y, 1, 5);
    c.is("t1: when they have gone", y.half(), 1);
    c.letter(y, 0, 0, 2, 2);
    // chum, hunger and hulls do not matter in it
    OneGullToABoat z = Check.sea("2,0-0;3,0-1", "a1;b1");
    z.sheet(2, 2, 6, 0);
    z.chum(1, 1);
    z.paint(0, 5);
    z.send(0, -1);
    z.send(1, -1);
    z.heads(0);
    c.row("t1: no storm, chum", z, 1, 1);
    z.weather(1, 1);
    z.heads(0);
    c.row("t1: storm, another hull", z, 0, 1);
    z.heads(1);
    c.row("t1: storm, another's boat", z, 0, 1);
    // as far as any: 30
    OneGullToABoat w = Check.sea("15,15-0", "a1");
    w.weather(1, 1);
    w.paint(0, 1);
    w.send(0, -1);
    c.is("t1: storm, 30", w.heads(0), 30);
    c.row("t1: storm, 30", w, 0, 0);
  }

  /** A boat that is ashore is met at once, by a gull that flies 0 cells too; so is the shore itself. */
  private static void metAtOnce() {
    for (int h = 0; h <= 9; h += 9) {
      OneGullToABoat x = Check.sea("0,0-0;9,9-1", "a1;b1");
      Check.rule(x, "0");
      x.write(0);
      x.write(1);
      x.sheet(2, 2, h, 0);
      c.is("13: 0 from it", x.send(0, 0), 0);
      x.paint(1, 5);
      c.is("13: 18 from it, though of another hull", x.send(1, 1), 18);
      c.is("27: 0 from it", x.heads(0), 0);
      c.row("27: 0 from it", x, 0, 0);
      c.is("27: 0 from the shore", x.heads(1), 0);
      c.row("27: 0 from the shore", x, -1, 0);
      c.is("34: astray", x.astray(), 0);
      c.row("34: ashore", x, 2);
      c.is("23: in 1", x.comes(0), 1);
      c.is("23: rests first", x.comes(1), -2);
      c.is("18: met", x.half(), 1);
      c.row("18: met", x, 1, 1, 0);
      c.gull(x, 0, 0, 0, 1, 0, 0, 0, 0, -1);
      c.gull(x, 1, 1, 1, 1, h, 0, 0, 0, -1);
      c.letter(x, 1, 1, 0, -1);
    }
  }

  private static void weather() {
    OneGullToABoat x = new OneGullToABoat();
    for (int v = 0; v <= 9; v++) c.is("10: wind " + v, x.weather(0, v), Math.max(0, v - 1));
    c.is("10: wind 0", x.weather(0, 0), 9);
    c.is("10: storm 0", x.weather(1, 0), 0);
    c.is("10: storm 1", x.weather(1, 1), 0);
    c.is("10: storm 0", x.weather(1, 0), 1);
    c.is("10: no undo", x.undo(), -1);
  }

  private static void sheetEntries() {
    OneGullToABoat x = Check.sea("15,15-0", "a1");
    int[] bytes = {0, 1, 8, 9, 10, 127, 128, 129, 255, 256, 257, 265, 266, 383, 384, -1, -128, -129, -247, -255, -256, MAX, MIN};
    int[] asBytes = {0, 1, 8, 9, 9, 9, 0, 0, 0, 0, 1, 9, 9, 9, 0, 0, 0, 9, 9, 1, 0, 0, 0};
    for (int i = 0; i < bytes.length; i++) {
      c.is("11: byte " + bytes[i], x.sheet(0, 1, bytes[i], 0), asBytes[i]);
      c.is("11: byte " + bytes[i], x.gull(0, 3), asBytes[i]);
    }
    int[] shorts = {0, 9, 10, 127, 128, 255, 256, 32767, 32768, 32769, 65535, 65536, 65537, 65545, 65546, -1, -32768, -32769,
        -65535, -65536, MAX, MIN};
    int[] asShorts = {0, 9, 9, 9, 9, 9, 9, 9, 0, 0, 0, 0, 1, 9, 9, 0, 0, 9, 1, 0, 0, 0};
    for (int i = 0; i < shorts.length; i++) {
      c.is("11: short " + shorts[i], x.sheet(1, 1, shorts[i], 0), asShorts[i]);
      c.is("11: short " + shorts[i], x.gull(0, 3), asShorts[i]);
    }
    int[] ints = {0, 1, 9, 10, 128, 255, 256, 32768, 65535, 65536, MAX, -1, -10, MIN};
    int[] asInts = {0, 1, 9, 9, 9, 9, 9, 9, 9, 9, 9, 0, 0, 0};
    for (int i = 0; i < ints.length; i++) {
      c.is("11: int " + ints[i], x.sheet(2, 1, ints[i], 0), asInts[i]);
      c.is("11: int " + ints[i], x.gull(0, 3), asInts[i]);
    }
    // f, f + step, .. wrap around as ints
    OneGullToABoat y = Check.sea("15,15-0", "a1;a1;a1");
    sheet(y, 2, 3, MAX, 1, 9, 0, 0);
    sheet(y, 2, 3, MIN, -1, 0, 9, 9);
    sheet(y, 2, 3, 1, MIN, 1, 0, 1);
    sheet(y, 2, 3, 0, 1 << 30, 0, 9, 0);
    sheet(y, 2, 3, 3, MAX, 3, 0, 1);
    sheet(y, 0, 3, 250, 7, 0, 1, 8);
    sheet(y, 0, 3, 126, 1, 9, 9, 0);
    sheet(y, 0, 3, MAX, 1, 0, 0, 1);
    sheet(y, 1, 3, 65534, 3, 0, 1, 4);
    sheet(y, 1, 3, 32766, 1, 9, 9, 0);
    sheet(y, 2, 3, 8, 1, 8, 9, 9);
    sheet(y, 2, 3, 1, -1, 1, 0, 0);
  }

  private static void sheet(OneGullToABoat x, int kind, int n, int f, int step, int... want) {
    String name = "11: sheet(" + kind + ", " + n + ", " + f + ", " + step + ")";
    int sum = 0;
    for (int v : want) sum += v;
    c.is(name, x.sheet(kind, n, f, step), sum);
    for (int g = 0; g < want.length; g++) c.is(name + " gull " + g, x.gull(g, 3), want[g]);
  }

  private static void sheetLengths() {
    for (int kind = 0; kind <= 2; kind++) {
      OneGullToABoat x = Check.sea("15,15-0", "a1;a1;a1;a1;a1;a1;a1;a1");
      sheet(x, kind, 8, 0, 1, 0, 1, 2, 3, 4, 5, 6, 7);
      sheet(x, kind, 8, 9, 0, 9, 9, 9, 9, 9, 9, 9, 9);
      sheet(x, kind, 7, 8, 0, 8, 8, 8, 8, 8, 8, 8, 0);
      sheet(x, kind, 1, 7, 0, 7, 0, 0, 0, 0, 0, 0, 0);
      c.is("11: n -1", x.sheet(kind, -1, 3, 3), -2);
      c.is("11: n 9", x.sheet(kind, 9, 3, 3), -1);
      c.is("11: nothing changes", x.gull(0, 3), 7);
      sheet(x, kind, 0, 7, 0, 0, 0, 0, 0, 0, 0, 0, 0);
      sheet(x, kind, 8, 5, 0, 5, 5, 5, 5, 5, 5, 5, 5);
      c.is("11: missing", x.sheet(3, kind, 3, 3), -3);
      for (int g = 0; g < 8; g++) c.is("11: missing, all 0", x.gull(g, 3), 0);
    }
    OneGullToABoat y = Check.sea("15,15-0", "a1;a1");
    sheet(y, 2, 8, 4, 1, 4, 5);
    for (int n : new int[] {MIN, -1, 0, 8}) {
      y.sheet(2, 2, 4, 0);
      c.is("11: missing, n " + n, y.sheet(3, n, 9, 9), -3);
      c.is("11: missing, n " + n, y.gull(0, 3) + y.gull(1, 3), 0);
    }
    OneGullToABoat none = new OneGullToABoat();
    c.is("11: no gulls", none.sheet(2, 8, 9, 0), 0);
    c.is("11: no gulls, missing", none.sheet(3, 0, 9, 0), -3);
    c.is("11: no gulls, n 9", none.sheet(2, 9, 9, 0), -1);
    // dead ones keep what they had, and their entry is passed over; one that flies is told of
    OneGullToABoat z = Check.sea("15,15-0", "a1;a1;a1");
    Check.rule(z, "0");
    z.sheet(2, 2, 0, 9);
    z.send(1, -1);
    z.half();
    z.send(2, -1);
    c.is("11: a dead one", z.sheet(2, 3, 3, 1), 3 + 5);
    c.is("11: first", z.gull(0, 3), 3);
    c.is("11: dead", z.gull(1, 3), 9);
    c.is("11: flies", z.gull(2, 3), 5);
    c.is("11: missing", z.sheet(3, 3, 3, 1), -3);
    c.is("11: missing, dead", z.gull(1, 3), 9);
    c.is("11: missing, flies", z.gull(2, 3), 0);
  }

  private static void write() {
    c.is("12: no boats", new OneGullToABoat().write(0), -1);
    OneGullToABoat x = Check.sea("1,1-0;1,1-0;1,1-0;1,1-0;1,1-0;1,1-0", "a9");
    for (int b : new int[] {-1, 6, MIN, MAX}) c.is("12: none such", x.write(b), -1);
    for (int i = 0; i < 10; i++) c.is("12: written", x.write(i % 6), i);
    c.is("12: 10 were", x.write(0), -2);
    c.is("12: ten", x.count(2), 10);
    // those on decks count too
    c.is("12: sent", x.send(0, 9), 2);
    x.halves(2);
    c.letter(x, 9, 3, 2, 0);
    c.is("12: 10 were, one on a deck", x.write(0), -2);
    for (int i = 0; i < 10; i++) c.is("12: for", x.letter(i, 0), i % 6);
  }

  private static void send() {
    OneGullToABoat x = Check.sea("15,15-0;0,0-1", "a1;b1;a2;a3;a4;a5;a6;a7");
    c.is("13: 30", x.send(0, -1), 30);
    c.is("13: 0", x.send(1, -1), 0);
    c.is("13: the last gull", x.send(7, -1), 30);
    c.is("13: no such gull", x.send(8, -1), -1);
    c.is("13: letter 0 of none", x.send(2, 0), -3);
    for (int i = 0; i < 10; i++) x.write(0);
    c.is("13: letter 10", x.send(2, 10), -3);
    c.is("13: letter 9", x.send(2, 9), 30);
    c.is("13: letter 0", x.send(3, 0), 30);
    c.is("13: it has it", x.gull(2, 7), 9);
    c.letter(x, 9, 0, 1, 2);
    c.is("13: letter 9 again", x.send(4, 9), -3);
    c.is("13: basket", x.count(8), 1022 - 512);
    // back in the basket it can be sent again
    x.paint(0, 1);
    x.half();
    c.is("13: rests again", x.gull(2, 6), 0);
    c.is("13: sent again by another", x.send(4, 9), 30);
  }

  private static void paintChumFeed() {
    OneGullToABoat x = Check.sea("1,1-0;1,1-0;1,1-0;1,1-0;1,1-0;1,1-0", "a9;f9");
    for (int h = 0; h <= 5; h++) c.is("14: hull " + h, x.paint(5, h), Math.max(0, h - 1));
    c.is("14: the same", x.paint(5, 5), 5);
    c.is("14: another boat is left alone", x.boat(4, 4), 0);
    c.is("15: shown", x.show(1), 5);
    c.is("15: another gull is left alone", x.gull(0, 1), 0);
    c.is("16: out", x.chum(5, 1), 0);
    c.is("16: another boat is left alone", x.boat(4, 5), 0);
    c.is("16: in", x.chum(5, 0), 1);
    c.is("16: in already", x.chum(5, 0), 0);
    for (int h = 0; h <= 9; h++) {
      x.sheet(2, 2, h, 0);
      c.is("17: hunger " + h, x.feed(1), h);
      c.is("17: 0 then", x.gull(1, 3), 0);
      c.is("17: another gull is left alone", x.gull(0, 3), h);
    }
    x.sheet(2, 2, 3, 4);
    c.is("17: its own hunger", x.feed(1), 7);
    c.is("17: its own hunger", x.feed(0), 3);
    x.send(1, -1);
    x.sheet(2, 2, 9, 0);
    x.paint(5, 0);
    x.weather(1, 0);
    Check.rule(x, "0");
    x.paint(5, 5);
    x.half();
    c.is("17: dead", x.feed(1), -2);
    c.is("15: dead", x.show(1), -2);
    c.is("17: dead, hunger stays", x.gull(1, 3), 9);
  }

  /** All eight gulls and ten letters at once. */
  private static void halfRow() {
    OneGullToABoat x = Check.sea("1,0-0;15,15-1", "a9;a9;a9;a9;b1;b1;b1;b1");
    for (int i = 0; i < 10; i++) x.write(0);
    x.sheet(2, 8, -27, 9);
    for (int g = 0; g < 4; g++) x.send(g, 6 + g);
    for (int g = 4; g < 8; g++) x.send(g, g - 4);
    c.is("18: four came", x.half(), 4);
    c.row("18: four came, four died", x, 15, 960, 240);
    c.is("18: none", x.half(), 0);
    c.row("18: none", x, 0, 0, 0);
    // a gull without a letter brings none; a letter may come on a deck it is not for
    OneGullToABoat y = Check.sea("1,0-0;0,1-1", "a9;b9");
    y.write(1);
    y.send(0, 0);
    y.send(1, -1);
    c.is("18: both", y.half(), 2);
    c.row("18: one letter", y, 3, 1, 0);
    OneGullToABoat none = new OneGullToABoat();
    c.is("18: no boats", none.half(), 0);
    c.row("18: no boats", none, 0, 0, 0);
    c.is("18: now", none.count(3), 1);
  }

  private static void halves() {
    for (int n : new int[] {0, 1, 2, 47, 48}) {
      OneGullToABoat x = Check.sea("0,3e0", "a1");
      c.is("19: " + n, x.halves(n), 0);
      c.row("19: " + n, x, 0, 0, 0);
      c.is("19: now " + n, x.count(3), n);
      c.is("19: to undo " + n, x.count(10), n > 0 ? 1 : 0);
    }
    // one that comes in the last of them counts, in the one behind not: rule 1, 4 cells
    for (int n = 3; n <= 5; n++) {
      OneGullToABoat x = Check.sea("4,0-0", "a1");
      Check.rule(x, "1");
      x.write(0);
      x.send(0, 0);
      c.is("19: comes in 4", x.halves(n), n < 4 ? 0 : 1);
      c.row("19: comes in 4", x, n < 4 ? 0 : 1, n < 4 ? 0 : 1, 0);
    }
    // one that dies in the tenth
    for (int n = 9; n <= 10; n++) {
      OneGullToABoat x = Check.sea("15,15-0", "a1");
      Check.rule(x, "1");
      x.send(0, -1);
      c.is("19: dies in 10", x.halves(n), 0);
      c.row("19: dies in 10", x, 0, 0, n < 10 ? 0 : 1);
    }
  }

  private static void cant(String fleet, String gulls, String day, int done, int came) {
    OneGullToABoat x = Check.sea(fleet, gulls);
    c.is("20: " + day, Check.day(x, day), done);
    c.row("20: " + day, x, 1, came);
    c.is("20: " + day + ": to undo", x.count(10), done > 0 ? 1 : 0);
  }

  private static void dayTillOneCant() {
    String fleet = "4,3-4;5,5-2";
    cant(fleet, "a9;b9", "s0-;s0-;h", 1, 0);
    cant(fleet, "a9;b9", "wa;s00;s10;h", 2, 0);
    cant(fleet, "a9;b9", "wa;s01;h", 1, 0);
    cant(fleet, "a9;b9", "s00;h", 0, 0);
    cant(fleet, "a9;b9", "s2-;h", 0, 0);
    cant(fleet, "a9;b9", "s9-;h", 0, 0);
    cant(fleet, "a9;b9", "f2;h", 0, 0);
    cant(fleet, "a9;b9", "o2;h", 0, 0);
    cant(fleet, "a9;b9", "s1-;f1;h", 1, 0);
    cant(fleet, "a9;b9", "s1-;o1;h", 1, 0);
    cant(fleet, "a9;b9", "wc;h", 0, 0);
    cant(fleet, "a9;b9", "wf;h", 0, 0);
    cant(fleet, "a9;b9", "pc0;h", 0, 0);
    cant(fleet, "a9;b9", "cc;h", 0, 0);
    cant(fleet, "a9;b9", "h;h;h;cf", 3, 0);
    cant(fleet, "a9;b9", "s0-;h;wc;h", 2, 1);
    cant(fleet, "a9;b9", "wa;wa;wa;wa;wa;wa;wa;wa;wa;wa;wa;h", 10, 0);
    // what was done stays, what comes behind is not done; as one it is undone
    OneGullToABoat x = Check.sea(fleet, "a9;b9");
    Check.day(x, "wa;wa;wa;wa;wa;wa;wa;wa;wa;wa;wa;h");
    c.is("20: ten", x.count(2), 10);
    c.is("20: now", x.count(3), 0);
    c.is("21: as one", x.undo(), 0);
    c.is("21: none written", x.count(2), 0);
    // no boats, no gulls: half hours alone can be
    OneGullToABoat none = new OneGullToABoat();
    c.is("20: no boats", Check.day(none, "h9;h;wa"), 2);
    c.row("20: no boats", none, 1, 0);
    c.is("20: no boats, now", none.count(3), 10);
  }

  private static void dayRow() {
    // one gull twice is two comings
    OneGullToABoat x = Check.sea("4,3-0", "a9");
    c.is("20: twice", Check.day(x, "s0-;h;s0-;h"), 4);
    c.row("20: twice", x, 0, 2);
    c.is("20: three times, the last not yet", Check.day(x, "s0-;h;s0-;h2;s0-"), 5);
    c.row("20: three times", x, 0, 2);
    c.is("20: of this day alone", Check.day(x, "h"), 1);
    c.row("20: of this day alone", x, 0, 1);
    c.is("20: an empty one", Check.day(x, ""), 0);
    c.row("20: an empty one", x, 0, 0);
    c.is("20: an empty one is nothing to undo", x.count(10), 3);
    // c of a boat that no gull has the number of
    OneGullToABoat y = Check.sea("4,3-0;5,5-1;6,6-2", "a9");
    c.is("20: cc", Check.day(y, "cc;cb;cb"), 3);
    c.is("20: cc", y.boat(2, 5), 1);
    c.is("20: cb twice", y.boat(1, 5), 0);
    c.is("20: cd", Check.day(y, "cd"), 0);
    // c turns it each time
    c.is("20: c", Check.day(x, "ca;ca;ca"), 3);
    c.is("20: out", x.boat(0, 5), 1);
    c.is("20: c", Check.day(x, "ca"), 1);
    c.is("20: in", x.boat(0, 5), 0);
  }

  private static void undoTwelve() {
    for (int acts : new int[] {1, 11, 12, 13, 14, 24, 25, 26, 27}) {
      OneGullToABoat x = Check.sea("0,3e0", "a1");
      for (int i = 0; i < acts; i++) x.half();
      int kept = Math.min(12, acts);
      c.is("21: kept of " + acts, x.count(10), kept);
      for (int i = 1; i <= kept; i++) {
        c.is("21: left", x.undo(), kept - i);
        c.is("21: now", x.count(3), acts - i);
        c.is("21: the boat", x.where(0, acts), where16(2 * acts - i));
      }
      c.is("21: none", x.undo(), -1);
      c.is("21: now", x.count(3), acts - kept);
    }
    // undone ones make room again
    OneGullToABoat y = new OneGullToABoat();
    for (int i = 0; i < 12; i++) y.half();
    for (int i = 0; i < 5; i++) y.undo();
    c.is("21: seven left", y.count(10), 7);
    for (int i = 0; i < 8; i++) y.half();
    c.is("21: twelve of fifteen", y.count(10), 12);
    c.is("21: now", y.count(3), 15);
    for (int i = 0; i < 12; i++) y.undo();
    c.is("21: three cannot be undone", y.count(3), 3);
    c.is("21: none", y.undo(), -1);
    // those that could not be done do not push others out
    OneGullToABoat z = new OneGullToABoat();
    for (int i = 0; i < 12; i++) z.half();
    for (int i = 0; i < 9; i++) z.write(0);
    z.halves(0);
    z.halves(49);
    Check.day(z, "wa");
    Check.day(z, "");
    Check.day(z, "x");
    for (int i = 0; i < 12; i++) c.is("21: left", z.undo(), 11 - i);
    c.is("21: all", z.count(3), 0);
  }

  /** Where a boat that began at 0,3 eastwards is behind n half hours: 16 y and x. */
  private static int where16(int n) {
    int m = n % 32;
    return 48 + (m < 16 ? m : 31 - m);
  }

  /** Each call that can be undone leaves nothing of itself behind. */
  private static void undone() {
    Twins.Call[] calls = {x -> x.write(2), x -> x.send(0, 3), x -> x.send(3, -1), x -> x.paint(0, 5), x -> x.show(3),
        x -> { x.paint(0, 5); x.undo(); return x.paint(0, 0); }, x -> x.chum(0, 1), x -> x.chum(0, 0), x -> x.feed(0),
        x -> x.feed(3), OneGullToABoat::half, x -> x.halves(1), x -> x.halves(48), x -> Check.day(x, "h"),
        x -> Check.day(x, "wa;s03;pb0;cc;f3;o3;h9;wd;h")};
    for (int i = 0; i < calls.length; i++) {
      OneGullToABoat x = Twins.make();
      OneGullToABoat y = Twins.make();
      c.is("21: call " + i + " is done", calls[i].on(x) >= 0, true);
      c.is("21: call " + i + " can be undone", x.count(10), 12);
      c.is("21: call " + i, x.undo(), 11);
      c.is("21: call " + i + ", as ahead of it", Twins.now(x).equals(Twins.now(y)), true);
      c.is("21: call " + i + ", others too", Twins.hidden(x, false).equals(Twins.hidden(y, false)), true);
    }
  }
}
