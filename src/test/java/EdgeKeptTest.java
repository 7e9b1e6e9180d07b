/** The edges of promises 37 to 46: next year, codes, seasons, what is kept, counts and the row; and of a new object. */
public final class EdgeKeptTest {
  private static final Check c = new Check();
  private static final int MIN = Integer.MIN_VALUE;
  private static final int MAX = Integer.MAX_VALUE;
  private static final String SIX = "1,1-0;2,2-1;3,3-2;4,4-3;5,5-4;15,15-5";

  public static void main(String[] args) {
    newObject();
    lonelyEmptyAndFull();
    lonelyDead();
    trainFewAndMany();
    trainSureAndNever();
    trainCut();
    codesOneAndTwelve();
    codesDraws();
    codesToldAnew();
    slipAllEdges();
    opensAll();
    seasonOnce();
    seasonSixty();
    seasonSends();
    seasonStorms();
    seasonWind();
    seasonLetters();
    keepBoth();
    keepEmpty();
    againAndUndo();
    againSince();
    againIsWhole();
    countEmpty();
    countFull();
    rowLengths();
    c.end("EdgeKeptTest");
  }

  private static void newObject() {
    OneGullToABoat x = new OneGullToABoat();
    c.is("1: NONE", OneGullToABoat.NONE, -1);
    c.is("1: no boats", x.count(0), 0);
    c.is("1: no gulls", x.count(1), 0);
    for (int i = -1; i <= 1; i++) {
      c.noBoat(x, i, 0);
      c.noGull(x, i, 0);
      c.noLetter(x, i, 0);
      c.noRow("1: no row", x, i);
    }
    c.is("4: an empty one: nothing", x.fleet(), 0);
    c.is("5: an empty one: nothing", x.gulls(), 0);
    c.is("6: an empty one: none", x.rule(), 0);
    c.is("20: an empty one: nothing", x.day(), 0);
    c.is("21: none", x.undo(), -1);
    c.is("39: its end for none", x.codes(0), -1);
    c.is("5: a letter of no BOAT", Check.gulls(x, "a1"), -1);
    c.is("1: no gulls still", x.count(1), 0);
    // one object leaves another alone
    OneGullToABoat y = Check.sea(SIX, "a1");
    c.is("1: six in another", y.count(0), 6);
    c.is("1: none here", x.count(0), 0);
  }

  private static void lonelyEmptyAndFull() {
    c.is("37: no boats", new OneGullToABoat().lonely(), -2);
    OneGullToABoat x = new OneGullToABoat();
    Check.fleet(x, "1,1-0");
    c.is("37: one boat, no gulls", x.lonely(), 0);
    c.row("37: one boat, no gulls", x, 0);
    OneGullToABoat six = new OneGullToABoat();
    Check.fleet(six, SIX);
    c.is("37: six boats, no gulls", six.lonely(), 0);
    c.row("37: six boats, no gulls", six, 0, 0, 0, 0, 0, 0);
    Check.gulls(six, "a1;b1;c1;d1;e1");
    c.is("37: the last boat", six.lonely(), 5);
    c.row("37: the last boat", six, 1, 1, 1, 1, 1, 0);
    Check.gulls(six, "f1;f1;f1");
    c.is("37: of equal ones the first", six.lonely(), 0);
    c.row("37: of equal ones the first", six, 1, 1, 1, 1, 1, 3);
    // by boats, not by hulls
    OneGullToABoat hulls = Check.sea("1,1-2;2,2-2;3,3-0", "a1;b1;b1");
    c.is("37: by boats", hulls.lonely(), 2);
    c.row("37: by boats", hulls, 1, 2, 0);
    OneGullToABoat all = Check.sea("1,1-0;2,2-1", "a1;a1;a1;a1;a1;a1;a1;a1");
    c.is("37: eight for one", all.lonely(), 1);
    c.row("37: eight for one", all, 8, 0);
  }

  private static void lonelyDead() {
    OneGullToABoat x = Check.sea("9,9-0;8,8-1", "a1;a1;b1");
    Check.rule(x, "0");
    x.sheet(2, 3, 9, 0);
    x.send(0, -1);
    x.send(1, -1);
    c.is("37: those that fly count", x.lonely(), 1);
    c.row("37: those that fly count", x, 2, 1);
    x.half();
    c.is("37: dead ones do not", x.lonely(), 0);
    c.row("37: dead ones do not", x, 0, 1);
    x.send(2, -1);
    x.half();
    c.is("37: all dead", x.lonely(), 0);
    c.row("37: all dead", x, 0, 0);
  }

  /** Fewer than there are boats: no chance, so the least row, all for the last boat; one each; eight. */
  private static void trainFewAndMany() {
    OneGullToABoat x = Check.sea(SIX, "a1");
    for (int n = 1; n <= 5; n++) {
      c.is("38: too few, " + n, x.train(n, 10), 0);
      c.row("38: too few, " + n, x, 0, 0, 0, 0, 0, n);
    }
    c.is("38: one each", x.train(6, 10), 10000);
    c.row("38: one each", x, 1, 1, 1, 1, 1, 1);
    c.is("38: eight", x.train(8, 10), 10000);
    c.row("38: eight", x, 1, 1, 1, 1, 1, 3);
    c.is("38: 0", x.train(0, 10), -1);
    c.is("38: 9", x.train(9, 10), -1);
    OneGullToABoat none = new OneGullToABoat();
    none.ring(0);
    for (int n = 1; n <= 8; n++) c.is("38: no boats", none.train(n, 5), -1);
    c.row("38: no boats, the row stays", none, 0);
    OneGullToABoat boats = new OneGullToABoat();
    Check.fleet(boats, "1,1-0;2,2-0");
    c.is("38: no gulls yet", boats.train(3, 10), 10000);
    c.row("38: no gulls yet", boats, 1, 2);
    OneGullToABoat one = Check.sea("1,1-0", "a1;a1;a1");
    // a half lives on: 1 less a half to the n, cut
    int[] halfLive = {5000, 7500, 8750, 9375, 9687, 9843, 9921, 9960};
    for (int n = 1; n <= 8; n++) {
      c.is("38: one boat, " + n, one.train(n, 5), halfLive[n - 1]);
      c.row("38: one boat, " + n, one, n);
    }
  }

  private static void trainSureAndNever() {
    OneGullToABoat x = Check.sea("1,1-0;2,2-1", "a1");
    for (int n = 1; n <= 8; n++) {
      c.is("38: never, " + n, x.train(n, 0), 0);
      c.row("38: never, " + n, x, 0, n);
      c.is("38: sure, " + n, x.train(n, 10), n == 1 ? 0 : 10000);
      c.row("38: sure, " + n, x, n == 1 ? 0 : 1, n == 1 ? 1 : n - 1);
    }
    c.is("38: p -1", x.train(8, -1), -1);
    c.is("38: p 11", x.train(8, 11), -1);
    // p 1, 2: 1000 of 10000, 100 of these; p 9: 9000, 8100
    c.is("38: p 1", x.train(2, 1), 100);
    c.row("38: p 1", x, 1, 1);
    c.is("38: p 9", x.train(2, 9), 8100);
    c.row("38: p 9", x, 1, 1);
  }

  /** Cut at each BOAT, so that which of them has more may matter. */
  private static void trainCut() {
    // p 1, three gulls: 10000 * 1 / 10 = 1000, * 19 / 100 = 190; the other way 1900, 190: the least row
    OneGullToABoat x = Check.sea("1,1-0;2,2-1", "a1");
    c.is("38: 1 and 2", x.train(3, 1), 190);
    c.row("38: 1 and 2", x, 1, 2);
    // p 1, five: 1900 * 271 / 1000 = 514; 2710 * 19 / 100 = 514: the least; 4 and 1: 343
    c.is("38: 2 and 3", x.train(5, 1), 514);
    c.row("38: 2 and 3", x, 2, 3);
    // p 7, seven: 3 and 4: 10000 - 270 = 9730, * 9919 / 10000 = 9651 (.187); 9919 * 973 / 1000 = 9651 (.187)
    c.is("38: 3 and 4", x.train(7, 7), 9651);
    c.row("38: 3 and 4", x, 3, 4);
    // eight zeros do not pass an int: 10000 times 10 to the 8 is 10 to the 12
    c.is("38: p 1, 8 for one", Check.sea("1,1-0", "a1").train(8, 1), 5695);
    c.is("38: p 9, 8 for one", Check.sea("1,1-0", "a1").train(8, 9), 9999);
    // three boats, p 1, four: 2 for one: 10000 by 19 / 100 and twice 1 / 10 is 19, wherever it is
    OneGullToABoat y = Check.sea("1,1-0;2,2-1;3,3-2", "a1");
    c.is("38: three boats", y.train(4, 1), 19);
    c.row("38: three boats", y, 1, 1, 2);
    // six, p 1, eight: 1000, 100, 10, 1, then 0: ahead of it 2710, 271, 27, 2, 0 ..: all 0 but none better
    OneGullToABoat z = Check.sea(SIX, "a1");
    c.is("38: six boats", z.train(8, 1), 0);
    c.row("38: six boats", z, 0, 0, 0, 0, 0, 8);
  }

  private static void codesOneAndTwelve() {
    OneGullToABoat x = new OneGullToABoat();
    c.is("39: 1", Check.codes(x, "0", 0), 1);
    c.is("40: the last", x.slip(1, 0) >= 0, true);
    c.is("40: behind it", x.slip(1, 1), -1);
    c.is("39: 12", Check.codes(x, "000000000000", 0), 12);
    c.is("40: the last", x.slip(1, 11) >= 0, true);
    c.is("40: behind it", x.slip(1, 12), -1);
    c.is("39: 13", Check.codes(x, "1111111111111", 0), -13);
    c.is("40: the word told ahead stays", x.slip(1, 11) >= 0, true);
    c.is("39: 11", Check.codes(x, "00000000000", 0), 11);
    c.is("40: shorter now", x.slip(1, 11), -1);
    c.is("40: shorter now", x.slip(1, 10) >= 0, true);
  }

  /** Seed 0: R 12345, by 65536 is 0. Then -740551042, without sign 3554416254, is 54236, by 11 leaves 6. */
  private static void codesDraws() {
    OneGullToABoat x = new OneGullToABoat();
    Check.codes(x, "99", 0);
    for (int j = 1; j <= 3; j++) c.is("39: a DRAW of 0", x.slip(j, 0), 9);
    c.is("39: R below 0", x.slip(1, 1), (9 + 6) % 11);
    c.is("39: R below 0", x.slip(2, 1), (9 + 12) % 11);
    c.is("39: R below 0", x.slip(3, 1), (9 + 18) % 11);
    // from seed on, each time anew
    Check.codes(x, "0", 0);
    c.is("39: anew", x.slip(1, 0), 0);
    for (int seed : new int[] {MIN, MIN + 1, -1, 0, 1, MAX - 1, MAX}) {
      long r = seed & 0xffffffffL;
      Check.codes(x, "012345678901", seed);
      for (int i = 0; i < 12; i++) {
        r = (r * 1103515245L + 12345L) % 4294967296L;
        int d = (int) (r / 65536 % 11);
        for (int j = 1; j <= 3; j++) c.is("39: seed " + seed, x.slip(j, i), (i % 10 + j * d) % 11);
      }
    }
  }

  private static void codesToldAnew() {
    OneGullToABoat x = new OneGullToABoat();
    Check.codes(x, "5", 3);
    int was = x.slip(1, 0);
    // a sea that comes, goes and comes again leaves the word alone
    x.keep(0);
    x.half();
    x.undo();
    x.again(0);
    x.season(9, 60, 1);
    Check.fleet(x, SIX);
    c.is("39: the word stays", x.slip(1, 0), was);
    Check.codes(x, "6", 3);
    c.is("39: told anew", x.slip(1, 0), (was + 1) % 11);
  }

  private static void slipAllEdges() {
    OneGullToABoat x = new OneGullToABoat();
    int[] edges = {MIN, -1, 0, 1, 2, 3, 4, MAX};
    int[] places = {MIN, -1, 0, 11, 12, MAX};
    for (int j : edges) for (int i : places) c.is("40: no word", x.slip(j, i), -2);
    Check.codes(x, "012345678901", 77);
    for (int j : edges) {
      for (int i : places) {
        boolean there = j >= 1 && j <= 3 && (i == 0 || i == 11);
        int got = x.slip(j, i);
        c.is("40: slip(" + j + ", " + i + ")", there ? got >= 0 && got <= 10 : got == -1, true);
      }
    }
    // all of 0 .. 10 are there: digit 0 with each DRAW that some seed tells
    int seen = 0;
    for (int seed = 0; seed < 400; seed++) {
      OneGullToABoat y = new OneGullToABoat();
      Check.codes(y, "0", seed);
      seen |= 1 << y.slip(1, 0);
    }
    c.is("40: 0 .. 10", seen, 2047);
  }

  private static void opensAll() {
    for (int a = 0; a <= 4; a++) {
      for (int b = 0; b <= 4; b++) {
        for (int u = -1; u <= 11; u++) {
          OneGullToABoat y = new OneGullToABoat();
          for (int v = -1; v <= 11; v++) opensOne(y, a, u, b, v);
        }
      }
    }
    OneGullToABoat x = new OneGullToABoat();
    // what codes() told is opened by any two of its slips
    Check.codes(x, "3141592653", 2);
    String word = "3141592653";
    for (int i = 0; i < 10; i++) {
      for (int a = 1; a <= 3; a++) {
        int b = a % 3 + 1;
        c.is("41: opened", x.opens(a, x.slip(a, i), b, x.slip(b, i)), word.charAt(i) - '0');
      }
    }
    for (int big : new int[] {MIN, MAX}) {
      c.is("41: a", x.opens(big, 1, 2, 1), -1);
      c.is("41: u", x.opens(1, big, 2, 1), -1);
      c.is("41: b", x.opens(1, 1, big, 1), -1);
      c.is("41: v", x.opens(1, 1, 2, big), -1);
    }
  }

  private static void opensOne(OneGullToABoat x, int a, int u, int b, int v) {
    x.ring(0);
    int want = -1;
    int draw = -1;
    if (a >= 1 && a <= 3 && b >= 1 && b <= 3 && a != b && u >= 0 && u <= 10 && v >= 0 && v <= 10) {
      for (int digit = 0; digit <= 10; digit++) {
        for (int d = 0; d <= 10; d++) {
          if ((digit + a * d) % 11 != u || (digit + b * d) % 11 != v) continue;
          want = digit == 10 ? -2 : digit;
          draw = d;
        }
      }
    }
    String name = "41: opens(" + a + ", " + u + ", " + b + ", " + v + ")";
    c.is(name, x.opens(a, u, b, v), want);
    c.row(name, x, want >= 0 ? draw : 0);
  }

  /** The DRAWs of a season, by threes. */
  private static int[] draws(int seed, int n, int p) {
    int[] out = new int[3 * n];
    long r = seed & 0xffffffffL;
    for (int i = 0; i < out.length; i++) {
      r = (r * 1103515245L + 12345L) % 4294967296L;
      out[i] = (int) (r / 65536 % (i % 3 == 0 ? 10 : i % 3 == 1 ? p : 8));
    }
    return out;
  }

  private static OneGullToABoat manySides() {
    OneGullToABoat x = Check.sea("4,3e0;9,2n1;3,12sw2;0,5-3;14,1s4;7,7nw5", "a3;b2;c9;d4;e1;f5;a7;d2");
    Check.rule(x, "p+w/3-(h<2)");
    for (int i = 0; i < 10; i++) x.write(i % 6);
    x.send(0, 0);
    x.send(2, 3);
    x.send(5, 7);
    x.chum(3, 1);
    x.paint(4, 2);
    return x;
  }

  /** Against the same half hours played by the calls of the day. */
  private static void season(int seed, int n, int p) {
    OneGullToABoat x = manySides();
    String name = "42: season(" + seed + ", " + n + ", " + p + ")";
    int came = x.season(seed, n, p);
    int died = x.row(0);
    int decks = x.row(1);
    c.is(name + " row", x.count(11), 2);
    int[] d = draws(seed, n, p);
    int byHand = 0;
    for (int i = 0; i < n; i++) {
      x.weather(0, d[3 * i]);
      x.weather(1, d[3 * i + 1] == 0 ? 1 : 0);
      x.send(d[3 * i + 2], -1);
      byHand += x.half();
    }
    c.is(name, came, byHand);
    c.is(name + " died", died, Integer.bitCount(x.count(7)));
    int onDecks = 0;
    for (int b = 0; b < 6; b++) onDecks |= x.boat(b, 6);
    c.is(name + " decks", decks, onDecks);
  }

  private static void seasonOnce() {
    for (int seed : new int[] {MIN, -1, 0, 1, MAX}) {
      for (int p = 1; p <= 10; p++) season(seed, 1, p);
    }
    OneGullToABoat none = new OneGullToABoat();
    c.is("42: no boats", none.season(1, 1, 1), 0);
    c.row("42: no boats", none, 0, 0);
    c.is("42: 0", none.season(1, 0, 1), -1);
    c.is("42: p 0", none.season(1, 1, 0), -1);
  }

  private static void seasonSixty() {
    for (int seed : new int[] {MIN, -7, 0, 7, MAX}) {
      for (int p : new int[] {1, 2, 9, 10}) {
        season(seed, 60, p);
        season(seed, 59, p);
      }
    }
    OneGullToABoat x = manySides();
    c.is("42: 61", x.season(1, 61, 1), -1);
    c.is("42: p 11", x.season(1, 60, 11), -1);
  }

  /** The GULL that a DRAW of 8 tells is sent with nothing, if it RESTS: not if it is not there, flies or is dead. */
  private static void seasonSends() {
    for (int seed = 0; seed < 40; seed++) {
      int told = draws(seed, 1, 1)[2];
      for (int gulls = 1; gulls <= 8; gulls++) {
        StringBuilder lines = new StringBuilder("a1");
        for (int g = 1; g < gulls; g++) lines.append(";a1");
        OneGullToABoat x = Check.sea("0,0-0", lines.toString());
        x.write(0);
        c.is("42: sent", x.season(seed, 1, 1), told < gulls ? 1 : 0);
        c.row("42: with nothing", x, 0, 0);
        c.is("42: it RESTS still", x.count(6), 0);
      }
    }
    // one that flies already is not sent again, one that is dead neither
    OneGullToABoat y = Check.sea("9,9-0", "a1;a1;a1;a1;a1;a1;a1;a1");
    Check.rule(y, "0");
    y.sheet(2, 8, 9, 0);
    for (int g = 0; g < 8; g++) y.send(g, -1);
    c.is("42: all die", y.season(3, 1, 10), 0);
    c.row("42: all die", y, 8, 0);
    y.half();
    c.is("42: all dead", y.season(3, 60, 10), 0);
    c.row("42: all dead, none died in these", y, 0, 0);
  }

  /** p 1: each is a storm; the boat of another hull is met in it alone. p 2: when the DRAW is 0. */
  private static void seasonStorms() {
    for (int p = 1; p <= 10; p++) {
      for (int seed = 0; seed < 20; seed++) {
        OneGullToABoat x = Check.sea("1,0-0", "a9");
        Check.rule(x, "1");
        x.write(0);
        x.send(0, 0);
        x.paint(0, 5);
        boolean storm = draws(seed, 1, p)[1] == 0;
        if (p == 1) c.is("42: p 1 is a storm", storm, true);
        c.is("42: a storm or none", x.season(seed, 1, p), storm ? 1 : 0);
        c.row("42: a storm or none", x, 0, storm ? 1 : 0);
      }
    }
    // the weather as it is now does not matter
    OneGullToABoat y = manySides();
    int came = y.season(5, 30, 4);
    y.weather(0, 9);
    y.weather(1, 1);
    c.is("42: its own weather", y.season(5, 30, 4), came);
    c.is("10: wind stays", y.count(4), 9);
    c.is("10: storm stays", y.count(5), 1);
  }

  /** The first DRAW of 10 is WIND: a boat w cells off is met by a gull that flies w, one farther not. */
  private static void seasonWind() {
    int seen = 0;
    for (int seed = 0; seed < 60; seed++) {
      int wind = draws(seed, 1, 1)[0];
      seen |= 1 << wind;
      for (int far = wind; far <= wind + 1; far++) {
        OneGullToABoat x = Check.sea(far + ",0-0", "a1");
        Check.rule(x, "w");
        x.send(0, -1);
        c.is("42: wind " + wind + ", far " + far, x.season(seed, 1, 1), far == wind ? 1 : 0);
      }
    }
    c.is("42: winds 0 .. 9", seen, 1023);
  }

  private static void seasonLetters() {
    // those that were on a deck ahead of it are told too, those in the basket not
    OneGullToABoat x = Check.sea("0,0-0;15,15-1", "a1;b1");
    for (int i = 0; i < 10; i++) x.write(1);
    x.send(0, 9);
    x.half();
    x.season(1, 1, 10);
    c.is("42: on a deck already", x.row(1), 512);
    x.send(0, 0);
    c.is("42: comes", x.season(1, 1, 1) >= 1, true);
    c.is("42: one more", x.row(1), 513);
    // a lost one is none
    x.half();
    Check.rule(x, "0");
    x.sheet(2, 2, 0, 9);
    x.send(1, 1);
    x.season(1, 1, 10);
    c.is("42: died", x.row(0) <= 1, true);
    c.is("42: a lost one is none", x.row(1) & 2, 0);
  }

  private static void keepBoth() {
    OneGullToABoat x = Check.sea("4,3e0", "a3");
    c.is("43: -1", x.keep(-1), false);
    c.is("43: 2", x.keep(2), false);
    c.is("44: nothing kept 0", x.again(0), false);
    c.is("44: nothing kept 1", x.again(1), false);
    c.is("43: 1", x.keep(1), true);
    c.is("44: nothing kept under 0 still", x.again(0), false);
    x.halves(2);
    c.is("43: 0", x.keep(0), true);
    x.halves(3);
    c.is("44: 1", x.again(1), true);
    c.boat(x, 0, 4, 3, 1, 0);
    c.is("44: now", x.count(3), 0);
    c.is("44: 0", x.again(0), true);
    c.boat(x, 0, 6, 3, 1, 0);
    c.is("44: now", x.count(3), 2);
    // kept anew under 0 alone
    x.halves(1);
    x.keep(0);
    x.again(1);
    c.is("43: 1 is as it was", x.count(3), 0);
    x.again(0);
    c.is("43: 0 is as kept last", x.count(3), 3);
    // what is done later is not in what was kept
    x.paint(0, 5);
    x.write(0);
    x.again(0);
    c.is("43: hull", x.boat(0, 4), 0);
    c.is("43: letters", x.count(2), 0);
  }

  private static void keepEmpty() {
    // each number for itself, also where nobody can have come since
    for (int i = 0; i <= 1; i++) {
      OneGullToABoat y = new OneGullToABoat();
      y.half();
      y.keep(i);
      y.half();
      c.is("44: nothing kept under the other", y.again(1 - i), false);
      c.is("44: now", y.count(3), 2);
      c.is("44: kept", y.again(i), true);
      c.is("44: now", y.count(3), 1);
    }
    OneGullToABoat x = new OneGullToABoat();
    c.is("43: nothing there", x.keep(0), true);
    x.halves(9);
    c.is("44: nothing there", x.again(0), true);
    c.is("44: now", x.count(3), 0);
    Check.fleet(x, "1,1-0");
    c.is("44: a boat came since", x.again(0), false);
    x.keep(1);
    Check.gulls(x, "a1");
    c.is("44: a gull came since", x.again(1), false);
    c.is("44: the gull is there", x.count(1), 1);
    c.is("43: kept anew", x.keep(1), true);
    c.is("44: none came since", x.again(1), true);
    c.is("44: of the other still", x.again(0), false);
  }

  private static void againAndUndo() {
    OneGullToABoat x = Check.sea("4,3e0", "a3");
    x.half();
    x.half();
    c.is("43: keep() is nothing to undo", x.keep(0), true);
    c.is("43: nor does it forget", x.count(10), 2);
    x.half();
    c.is("44: refused, nothing is forgotten", x.again(1), false);
    c.is("44: refused, nothing is forgotten", x.count(10), 3);
    c.is("44: again", x.again(0), true);
    c.is("44: all is forgotten", x.count(10), 0);
    c.is("21: none", x.undo(), -1);
    c.is("44: now", x.count(3), 2);
    // and from then on 12 again
    for (int i = 0; i < 13; i++) x.half();
    c.is("21: 12", x.count(10), 12);
    for (int i = 0; i < 12; i++) x.undo();
    c.is("21: now", x.count(3), 3);
    // undone does not touch what is kept
    x.keep(1);
    x.half();
    x.undo();
    x.again(0);
    c.is("44: 0", x.count(3), 2);
    x.again(1);
    c.is("44: 1", x.count(3), 3);
  }

  /** Refused calls of fleet() and gulls(), and empty ones, bring nobody. */
  private static void againSince() {
    OneGullToABoat x = Check.sea("4,3e0", "a3");
    x.keep(0);
    Check.fleet(x, "");
    Check.gulls(x, "");
    Check.fleet(x, "1,1-0;x");
    Check.gulls(x, "a1;b1");
    x.half();
    c.is("44: none came", x.again(0), true);
    c.is("44: now", x.count(3), 0);
    Check.fleet(x, "1,1-0");
    c.is("44: a boat came", x.again(0), false);
    OneGullToABoat y = Check.sea("4,3e0", "a3");
    y.keep(0);
    Check.gulls(y, "a1");
    c.is("44: a gull came", y.again(0), false);
    // full ones
    OneGullToABoat z = Twins.full();
    z.keep(0);
    z.half();
    Check.fleet(z, "1,1-0");
    Check.gulls(z, "a1");
    c.is("44: no room, so none came", z.again(0), true);
  }

  /** BOATS, GULLS, LETTERS and NOW all, nothing else: weather, THE RULE, THE TEXT, the word, the ROW stay. */
  private static void againIsWhole() {
    OneGullToABoat x = Twins.make();
    OneGullToABoat y = Twins.make();
    x.keep(1);
    y.keep(1);
    Check.day(x, "wa;s03;pb0;cc;f3;o3;h9");
    x.sheet(2, 4, 5, 0);
    c.is("44: again", x.again(1), true);
    c.is("44: again", y.again(1), true);
    c.is("44: all is as it was", Twins.now(x).equals(Twins.now(y)), true);
    OneGullToABoat z = Check.sea("9,0-0", "a5");
    z.keep(0);
    z.weather(0, 4);
    z.weather(1, 1);
    Check.rule(z, "w");
    Check.codes(z, "7", 1);
    z.where(0, 3);
    Check.tell(z, "123");
    z.again(0);
    c.row("44: the ROW stays", z, 0, 0);
    c.is("44: wind", z.count(4), 4);
    c.is("44: storm", z.count(5), 1);
    c.is("44: the text", z.count(12), 3);
    c.is("44: the word", z.slip(1, 0), 4);
    z.send(0, -1);
    z.heads(0);
    c.row("44: the rule", z, 0, 4);
  }

  private static void countEmpty() {
    OneGullToABoat x = new OneGullToABoat();
    for (int what = 0; what <= 12; what++) c.is("45: at first, " + what, x.count(what), 0);
    for (int what : new int[] {MIN, -1, 13, MAX}) c.is("45: " + what, x.count(what), -1);
  }

  private static void countFull() {
    OneGullToABoat x = Twins.full();
    // gull 0 flies with letter 3: 0 cells, then 1 of 2
    int[] full = {6, 8, 10, 2, 0, 0, 1, 0, 1015, 0, 12, 1, 80};
    for (int what = 0; what <= 12; what++) c.is("45: full, " + what, x.count(what), full[what]);
    x.weather(0, 9);
    x.weather(1, 1);
    c.is("45: wind", x.count(4), 9);
    c.is("45: storm", x.count(5), 1);
    x.weather(1, 0);
    Check.rule(x, "0");
    int[] letters = {3, 0, 1, 2, 4, 5, 6, 7};
    for (int g = 1; g < 8; g++) x.send(g, letters[g]);
    c.is("45: all fly", x.count(6), 255);
    c.is("45: none dead", x.count(7), 0);
    c.is("45: two in the basket", x.count(8), 768);
    x.sheet(2, 8, 9, 0);
    x.half();
    c.is("45: none fly", x.count(6), 0);
    c.is("45: all dead", x.count(7), 255);
    c.is("45: lost", x.count(9), 255);
    c.is("45: to undo", x.count(10), 12);
    c.is("45: the row", x.count(11), 3);
    c.row("45: all died", x, 0, 0, 255);
    for (int i = 0; i < 40; i++) x.halves(48);
    c.is("45: now", x.count(3), 3 + 40 * 48);
  }

  private static void rowLengths() {
    OneGullToABoat x = new OneGullToABoat();
    c.noRow("46: at first", x, 0);
    x.shouted(0, 0, 0);
    c.row("46: told, of no numbers", x);
    x.ring(0);
    c.row("46: one", x, 0);
    x.shouted(0, 0, 0);
    c.row("46: of no numbers again", x);
    OneGullToABoat y = Check.sea(SIX, "a1");
    y.shouted(63, 0, 0);
    c.row("46: six", y, 0, 0, 0, 0, 0, 0);
    y.lonely();
    c.row("46: six", y, 1, 0, 0, 0, 0, 0);
    y.train(6, 10);
    c.row("46: six", y, 1, 1, 1, 1, 1, 1);
    y.due(0);
    c.row("46: four", y, 0, 0, 0, 0);
    y.half();
    c.row("46: three", y, 0, 0, 0);
    y.where(0, 0);
    c.row("46: two", y, 0, 0);
    y.astray();
    c.row("46: one", y, 0);
    for (int i : new int[] {MIN, -1, 1, 2, 6, 8, MAX}) c.noRow("46: none such", y, i);
    y.order(15, 1);
    y.thief(0);
    y.comes(0);
    c.row("46: the last one told", y, 0);
  }
}
