/** Promises 37 to 46: next year, codes, seasons, what is kept, counts and the row. */
public final class KeptTest {
  private static final Check c = new Check();

  public static void main(String[] args) {
    lonely();
    train();
    codes();
    slip();
    opens();
    season();
    keep();
    again();
    count();
    row();
    c.end("KeptTest");
  }

  private static void lonely() {
    c.is("37: no boats", new OneGullToABoat().lonely(), -2);
    OneGullToABoat x = Check.sea("4,3-0;9,0-1;15,15-2", "a1;a1;b1;c1;b2");
    c.is("37: c", x.lonely(), 2);
    c.row("37: c", x, 2, 2, 1);
    Check.gulls(x, "c2");
    c.is("37: of equal ones the first", x.lonely(), 0);
    Check.rule(x, "0");
    x.sheet(2, 8, 9, 0);
    x.send(2, -1);
    c.is("37: one that flies lives", x.lonely(), 0);
    x.half();
    c.is("37: dead ones left out", x.lonely(), 1);
    c.row("37: dead ones left out", x, 2, 1, 2);
  }

  private static void train() {
    c.is("38: no boats", new OneGullToABoat().train(1, 1), -1);
    OneGullToABoat x = Check.sea("4,3-0;9,0-1;15,15-2", "a1");
    c.is("38: one each", x.train(3, 5), 1250);
    c.row("38: one each", x, 1, 1, 1);
    c.is("38: too few", x.train(2, 5), 0);
    c.row("38: the least row", x, 0, 0, 2);
    c.is("38: sure", x.train(8, 10), 10000);
    c.row("38: the least of as good ones", x, 1, 1, 6);
    c.is("38: never", x.train(8, 0), 0);
    c.row("38: never", x, 0, 0, 8);
    c.is("38: one more", x.train(4, 5), 1875);
    c.row("38: one more", x, 1, 1, 2);
    // cut at each boat: 10000 * 657 / 1000 = 6570, * 51 / 100 = 3350, * 51 / 100 = 1708;
    // 5100, then 3350 (.7), then 1708; 5100, 2601, 1708 (.857): all alike, so the least row
    c.is("38: cut at each", x.train(7, 3), 1708);
    c.row("38: cut at each", x, 2, 2, 3);
    c.is("38: n 1", x.train(1, 5), 0);
    c.row("38: n 1", x, 0, 0, 1);
    c.is("38: n 0", x.train(0, 5), -1);
    c.is("38: n 9", x.train(9, 5), -1);
    c.is("38: p -1", x.train(3, -1), -1);
    c.is("38: p 11", x.train(3, 11), -1);
    OneGullToABoat y = Check.sea("4,3-0", "a1");
    c.is("38: one boat", y.train(8, 1), 5695);
    c.row("38: one boat", y, 8);
    OneGullToABoat z = Check.sea("1,1-0;1,1-0;1,1-0;1,1-0;1,1-0;1,1-0", "a1");
    // 9000, 8100, 7290, 6561, then by 99 / 100: 6495 (.39), 6430 (.05)
    c.is("38: six boats", z.train(8, 9), 6430);
    c.row("38: six boats", z, 1, 1, 1, 1, 2, 2);
  }

  /** The DRAWs as the document tells them, in long arithmetic. */
  private static int[] draws(long seed, int... of) {
    int[] out = new int[of.length];
    long r = seed & 0xffffffffL;
    for (int i = 0; i < of.length; i++) {
      r = (r * 1103515245L + 12345L) & 0xffffffffL;
      out[i] = (int) (r / 65536 % of[i]);
    }
    return out;
  }

  private static void codes() {
    OneGullToABoat x = new OneGullToABoat();
    c.is("39: none", Check.codes(x, "", 1), -1);
    c.is("39: x", Check.codes(x, "x", 1), -1);
    c.is("39: 1x", Check.codes(x, "1x", 1), -2);
    c.is("39: :", Check.codes(x, ":", 1), -1);
    c.is("39: 13", Check.codes(x, "1234567890123", 1), -13);
    c.is("39: 13th no digit", Check.codes(x, "123456789012x", 1), -13);
    c.is("39: bad ahead of it", Check.codes(x, "12345678901x2", 1), -12);
    c.is("39: the text is empty then", x.count(12), 0);
    c.is("39: no word", x.slip(1, 0), -2);
    c.is("39: 12", Check.codes(x, "123456789012", 1), 12);
    c.is("39: the text is empty then", x.count(12), 0);
    c.is("39: one", Check.codes(x, "9", -5), 1);
    int d = draws(-5, 11)[0];
    c.is("39: slip 2", x.slip(2, 0), (9 + 2 * d) % 11);
    Check.codes(x, "12x", 3);
    Check.codes(x, "", 3);
    c.is("39: the word told ahead stays", x.slip(2, 0), (9 + 2 * d) % 11);
    c.is("39: of one digit", x.slip(2, 1), -1);
  }

  private static void slip() {
    OneGullToABoat x = new OneGullToABoat();
    // NONE is for the others, so without a word no j and no i is NONE
    int[] edges = {Integer.MIN_VALUE, -1, 0, 1, 3, 4, 11, 12, Integer.MAX_VALUE};
    for (int j : edges) {
      for (int i : edges) c.is("40: no word", x.slip(j, i), -2);
    }
    Check.codes(x, "7x", 1);
    c.is("40: no word, a refused one", x.slip(0, 0), -2);
    c.is("40: no word, a refused one", x.slip(1, -1), -2);
    int[] seeds = {1, 0, -1, 123456789, Integer.MIN_VALUE};
    for (int seed : seeds) {
      Check.codes(x, "7058", seed);
      int[] d = draws(seed, 11, 11, 11, 11);
      int[] digits = {7, 0, 5, 8};
      for (int j = 1; j <= 3; j++) {
        for (int i = 0; i < 4; i++) c.is("40: slip", x.slip(j, i), (digits[i] + j * d[i]) % 11);
      }
    }
    // seed 1: R = 1103527590, by 65536: 16838, % 11: 8; so 7 + 8, 7 + 16, 7 + 24 by 11
    Check.codes(x, "7", 1);
    c.is("40: by hand", x.slip(1, 0), 4);
    c.is("40: by hand", x.slip(2, 0), 1);
    c.is("40: by hand", x.slip(3, 0), 9);
    c.is("40: j 0", x.slip(0, 0), -1);
    c.is("40: j 4", x.slip(4, 0), -1);
    c.is("40: i 1", x.slip(1, 1), -1);
    c.is("40: i -1", x.slip(1, -1), -1);
    for (int j : edges) {
      for (int i : edges) {
        boolean there = j >= 1 && j <= 3 && i == 0;
        c.is("40: of one digit", x.slip(j, i), there ? (7 + j * 8) % 11 : -1);
      }
    }
  }

  private static void opens() {
    for (int digit = 0; digit <= 10; digit++) {
      OneGullToABoat x = new OneGullToABoat();
      for (int d = 0; d <= 10; d++) {
        for (int a = 1; a <= 3; a++) {
          int b = a % 3 + 1;
          int got = x.opens(a, (digit + a * d) % 11, b, (digit + b * d) % 11);
          c.is("41: digit", got, digit == 10 ? -2 : digit);
          if (digit < 10) c.row("41: draw", x, d);
        }
      }
    }
    OneGullToABoat x = new OneGullToABoat();
    c.is("41: alike", x.opens(1, 1, 1, 1), -1);
    c.is("41: a 0", x.opens(0, 1, 1, 1), -1);
    c.is("41: a 4", x.opens(4, 1, 1, 1), -1);
    c.is("41: b 0", x.opens(1, 1, 0, 1), -1);
    c.is("41: b 4", x.opens(1, 1, 4, 1), -1);
    c.is("41: u 11", x.opens(1, 11, 2, 1), -1);
    c.is("41: u -1", x.opens(1, -1, 2, 1), -1);
    c.is("41: v 11", x.opens(1, 1, 2, 11), -1);
    c.is("41: v -1", x.opens(1, 1, 2, -1), -1);
  }

  /** A season, played on another object by the calls of the day. */
  private static void seasonByHand(int seed, int n, int p) {
    String fleet = "6,3e0;9,2n1;3,12sw2;0,5-3";
    String gulls = "a3;b2;c9;d4;a1;b5";
    OneGullToABoat x = Check.sea(fleet, gulls);
    Check.rule(x, "p+w/3-(h<2)");
    for (int i = 0; i < 4; i++) x.write(i);
    x.send(0, 0);
    x.send(2, 3);
    x.chum(3, 1);
    x.halves(2);
    int[] of = new int[3 * n];
    for (int i = 0; i < of.length; i++) of[i] = i % 3 == 0 ? 10 : i % 3 == 1 ? p : 8;
    int[] d = draws(seed, of);
    x.delivers(60);
    x.season(seed + 1, 60, 1);
    int came = x.season(seed, n, p);
    int died = x.row(0);
    int decks = x.row(1);
    c.is("42: row length", x.count(11), 2);
    c.is("42: now", x.count(3), 2);
    int cameByHand = 0;
    for (int i = 0; i < n; i++) {
      x.weather(0, d[3 * i]);
      x.weather(1, d[3 * i + 1] == 0 ? 1 : 0);
      x.send(d[3 * i + 2], -1);
      cameByHand += x.half();
    }
    c.is("42: came", came, cameByHand);
    c.is("42: died", died, Integer.bitCount(x.count(7)));
    int onDecks = 0;
    for (int b = 0; b < 4; b++) onDecks |= x.boat(b, 6);
    c.is("42: decks", decks, onDecks);
  }

  private static void season() {
    for (int seed = -3; seed < 20; seed++) seasonByHand(seed * 7919, 1 + (seed + 3) * 2, 1 + (seed + 3) % 10);
    OneGullToABoat x = new OneGullToABoat();
    c.is("42: n 0", x.season(1, 0, 1), -1);
    c.is("42: n 61", x.season(1, 61, 1), -1);
    c.is("42: p 0", x.season(1, 1, 0), -1);
    c.is("42: p 11", x.season(1, 1, 11), -1);
    c.is("42: 60", x.season(1, 60, 10), 0);
    c.row("42: 60", x, 0, 0);
  }

  private static void keep() {
    OneGullToABoat x = Check.sea("4,3e0", "a3");
    c.is("43: -1", x.keep(-1), false);
    c.is("43: 2", x.keep(2), false);
    c.is("43: 0", x.keep(0), true);
    x.half();
    c.is("43: 1", x.keep(1), true);
    c.is("43: undo stays", x.count(10), 1);
    x.half();
    c.is("43: 0 again", x.again(0), true);
    c.is("43: now", x.count(3), 0);
    c.is("43: 1 again", x.again(1), true);
    c.is("43: now", x.count(3), 1);
    x.keep(0);
    x.halves(5);
    x.again(0);
    c.is("43: kept anew", x.count(3), 1);
  }

  private static void again() {
    OneGullToABoat x = Check.sea("4,3e0;9,9-1", "a3;b9");
    c.is("44: nothing kept", x.again(0), false);
    c.is("44: -1", x.again(-1), false);
    c.is("44: 2", x.again(2), false);
    x.write(0);
    x.keep(0);
    c.is("44: of the other nothing", x.again(1), false);
    x.write(1);
    x.send(0, 0);
    x.send(1, -1);
    x.paint(1, 5);
    x.chum(0, 1);
    x.weather(0, 7);
    x.weather(1, 1);
    Check.rule(x, "1");
    x.halves(3);
    c.is("44: again", x.again(0), true);
    c.boat(x, 0, 4, 3, 1, 0, 0, 0, 0);
    c.boat(x, 1, 9, 9, 0, 0, 1, 0, 0);
    c.gull(x, 0, 0, 0, 3, 0, 0, 0, 0, -1);
    c.gull(x, 1, 1, 1, 9, 0, 0, 0, 0, -1);
    c.letter(x, 0, 0, 0, -1);
    c.is("44: letters", x.count(2), 1);
    c.is("44: now", x.count(3), 0);
    c.is("44: wind stays", x.count(4), 7);
    c.is("44: storm stays", x.count(5), 1);
    x.half();
    c.is("44: as often as one likes", x.again(0), true);
    Check.fleet(x, "");
    Check.gulls(x, "z");
    c.is("44: none came", x.again(0), true);
    Check.gulls(x, "a1");
    c.is("44: gulls came since", x.again(0), false);
    x.half();
    c.is("44: refused, undo stays", x.count(10), 1);
    x.keep(0);
    c.is("44: kept anew", x.again(0), true);
    Check.fleet(x, "1,1-0");
    c.is("44: boats came since", x.again(0), false);
    c.is("44: boats stay", x.count(0), 3);
  }

  private static void count() {
    OneGullToABoat x = Check.sea("4,3-0;9,9-1", "a3;b9;a1");
    Check.rule(x, "p");
    x.weather(0, 4);
    x.weather(1, 1);
    x.weather(1, 0);
    for (int i = 0; i < 4; i++) x.write(0);
    x.sheet(2, 8, 8, 1);
    x.send(0, 1);
    x.send(1, 2);
    x.half();
    x.sign(0);
    x.sign(0);
    x.weather(1, 1);
    int[] want = {2, 3, 4, 1, 4, 1, 1, 2, 9, 4, 7, 3, 8};
    for (int i = 0; i < want.length; i++) c.is("45: count(" + i + ")", x.count(i), want[i]);
    c.is("45: 13", x.count(13), -1);
    c.is("45: -1", x.count(-1), -1);
  }

  private static void row() {
    OneGullToABoat x = Check.sea("4,3w0;9,9-1", "a3");
    c.noRow("46: at first", x, 0);
    x.where(0, 1);
    c.row("46: two", x, -1, 0);
    c.noRow("46", x, -1);
    c.noRow("46", x, Integer.MAX_VALUE);
    c.noRow("46", x, Integer.MIN_VALUE);
    x.ring(31);
    x.spreads(1, 3);
    x.write(0);
    x.send(0, 0);
    x.count(3);
    x.would(0);
    c.row("46: told last", x, -1, 0);
    x.due(0);
    c.row("46: four", x, 0, 1, 0, 0);
    x.ring(7);
    c.row("46: one", x, 1);
  }
}
