import java.util.function.Supplier;

/**
 * Terms 2: "Refused calls answer NONE, or false, and change nothing but THE TEXT, which a call that reads it empties",
 * "Questions change nothing", "ROW: numbers told last by a call that says so". Each call is made on one of two objects
 * with the same past; then both are asked for all they can tell.
 */
public final class RefusedTest {
  private static final Check c = new Check();
  private static final int MIN = Integer.MIN_VALUE;
  private static final int MAX = Integer.MAX_VALUE;

  public static void main(String[] args) {
    theFleet();
    signsAreFull();
    textsRefused();
    textsThatAreFull();
    theDay();
    theDayFull();
    halfHoursToCome();
    orders();
    thievesToSeasons();
    kept();
    thrown();
    questions();
    rowIsLeft();
    c.end("RefusedTest");
  }

  private static void same(String name, Supplier<OneGullToABoat> make, Twins.Call call, long want, boolean row, boolean text) {
    OneGullToABoat x = make.get();
    OneGullToABoat y = make.get();
    c.is(name, call.on(x), want);
    same(name, "all that is told", Twins.now(x), Twins.now(y));
    if (row) same(name, "the row", Twins.row(x), Twins.row(y));
    if (text) same(name, "the text", "" + x.count(12), "" + y.count(12));
    else c.is(name + ": the text is empty then", x.count(12), 0);
    same(name, "what is not seen", Twins.hidden(x, text), Twins.hidden(y, text));
  }

  private static void same(String name, String what, String got, String want) {
    boolean alike = got.equals(want);
    if (!alike) System.out.println(name + ", " + what + ":\n" + got + "\ndue is\n" + want);
    c.is(name + ": " + what + " stays", alike, true);
  }

  /** A call that neither changes anything nor tells a ROW. */
  private static void refused(String name, Twins.Call call, long want) {
    same(name, Twins::make, call, want, true, true);
  }

  private static void refusedFull(String name, Twins.Call call, long want) {
    same(name, Twins::full, call, want, true, true);
  }

  private static void question(String name, Twins.Call call, long want) {
    same(name, Twins::make, call, want, false, true);
  }

  private static void refusedText(String name, String text, Twins.Call read, long want) {
    Supplier<OneGullToABoat> told = () -> { OneGullToABoat x = Twins.make(); Check.tell(x, text); return x; };
    same(name + " " + text, told, read, want, true, false);
  }

  private static void theFleet() {
    for (int n : new int[] {-1, MIN, 3, MAX}) refused("3: end(" + n + ")", x -> x.end(n) ? 1 : 0, 0);
    for (int v : new int[] {-1, 10, MIN, MAX}) refused("10: wind " + v, x -> x.weather(0, v), -1);
    for (int v : new int[] {-1, 2, MIN, MAX}) refused("10: storm " + v, x -> x.weather(1, v), -1);
    for (int what : new int[] {-1, 2, MIN, MAX}) refused("10: what " + what, x -> x.weather(what, 1), -1);
    for (int kind : new int[] {-1, 4, MIN, MAX}) {
      refused("11: kind " + kind, x -> x.sheet(kind, 4, 5, 1), -1);
      refused("11: kind " + kind + ", n below 0", x -> x.sheet(kind, -1, 5, 1), -1);
      refused("11: kind " + kind + ", n 9", x -> x.sheet(kind, 9, 5, 1), -1);
    }
    for (int kind = 0; kind <= 3; kind++) {
      int k = kind;
      for (int n : new int[] {9, MAX}) refused("11: kind " + k + ", n " + n, x -> x.sheet(k, n, 5, 1), -1);
    }
    for (int kind = 0; kind <= 2; kind++) {
      int k = kind;
      for (int n : new int[] {-1, MIN}) refused("11: kind " + k + ", n " + n, x -> x.sheet(k, n, 5, 1), -2);
    }
  }

  /** There would be more than 80: of 77, 78, 79, 80 and four more. */
  private static void signsAreFull() {
    for (int n = 77; n <= 80; n++) {
      int signs = n;
      Supplier<OneGullToABoat> told = () -> { OneGullToABoat x = Twins.full(); x.end(signs); return x; };
      same("2: " + n + " signs and four", told, x -> x.sign(0x35363738), -1, true, true);
    }
    // the signs themselves stay: 12 of the 80 are the word that was told
    OneGullToABoat x = new OneGullToABoat();
    for (int i = 0; i < 20; i++) x.sign(0x31323334);
    x.sign(0x35353535);
    x.end(12);
    c.is("2: twelve of them", x.codes(0), 12);
    OneGullToABoat y = new OneGullToABoat();
    Check.codes(y, "123412341234", 0);
    for (int i = 0; i < 12; i++) c.is("2: digit " + i, x.slip(1, i), y.slip(1, i));
  }

  private static void textsRefused() {
    String[] fleets = {"x", "1,1-0;", "1,1-0;2,2-0;3,3-0;4", "16,1-0", "1,1-6", "1,1"};
    int[] there = {0, 6, 18, 1, 4, 3};
    for (int i = 0; i < fleets.length; i++) refusedText("4:", fleets[i], OneGullToABoat::fleet, -1 - there[i]);
    String[] gulls = {"d1", "a1;d1", "a0", "a1;", "a1;a1;a1;a1;a", "a", "a1x"};
    int[] at = {0, 3, 1, 3, 12, 1, 2};
    for (int i = 0; i < gulls.length; i++) refusedText("5:", gulls[i], OneGullToABoat::gulls, -1 - at[i]);
    String[] rules = {"x", "p+", "1000", "(p", "p<h<d", "(((((p)))))"};
    int[] where = {0, 2, 3, 2, 3, 4};
    for (int i = 0; i < rules.length; i++) refusedText("6:", rules[i], OneGullToABoat::rule, -1 - where[i]);
    String[] days = {"x", "h;", "h;x", "wa;h0", "cg", "s0"};
    int[] sign = {0, 2, 2, 4, 1, 2};
    for (int i = 0; i < days.length; i++) refusedText("20:", days[i], OneGullToABoat::day, -1 - sign[i]);
    String[] words = {"", "x", "1x", "1234567890123", "123456789012x"};
    int[] place = {0, 0, 1, 12, 12};
    for (int i = 0; i < words.length; i++) refusedText("39:", words[i], x -> x.codes(3), -1 - place[i]);
    // an empty text: nothing, and nothing is forgotten
    refusedText("4: empty", "", OneGullToABoat::fleet, 0);
    refusedText("5: empty", "", OneGullToABoat::gulls, 0);
  }

  private static void textsThatAreFull() {
    Supplier<OneGullToABoat> boat = () -> { OneGullToABoat x = Twins.full(); Check.tell(x, "1,1-0"); return x; };
    same("4: full", boat, OneGullToABoat::fleet, -1, true, false);
    Supplier<OneGullToABoat> gull = () -> { OneGullToABoat x = Twins.full(); Check.tell(x, "a1"); return x; };
    same("5: full", gull, OneGullToABoat::gulls, -1, true, false);
    Supplier<OneGullToABoat> signs = Twins::full;
    same("4: 80 signs", signs, OneGullToABoat::fleet, -1, true, false);
    same("5: 80 signs", signs, OneGullToABoat::gulls, -1, true, false);
    same("6: 80 signs", signs, OneGullToABoat::rule, -4, true, false);
    same("20: 80 signs", signs, OneGullToABoat::day, -1, true, false);
    same("39: 80 signs", signs, x -> x.codes(1), -13, true, false);
  }

  private static void theDay() {
    for (int b : new int[] {-1, 3, MIN, MAX}) {
      refused("12: write(" + b + ")", x -> x.write(b), -1);
      refused("14: paint(" + b + ", 0)", x -> x.paint(b, 0), -1);
      refused("16: chum(" + b + ", 1)", x -> x.chum(b, 1), -1);
    }
    for (int h : new int[] {-1, 6, MIN, MAX}) refused("14: hull " + h, x -> x.paint(0, h), -1);
    for (int v : new int[] {-1, 2, MIN, MAX}) refused("16: v " + v, x -> x.chum(0, v), -1);
    for (int g : new int[] {-1, 4, MIN, MAX}) {
      refused("13: gull " + g, x -> x.send(g, 3), -1);
      refused("13: gull " + g + ", without", x -> x.send(g, -1), -1);
      refused("15: show(" + g + ")", x -> x.show(g), -1);
      refused("17: feed(" + g + ")", x -> x.feed(g), -1);
    }
    for (int g = 1; g <= 2; g++) {
      int flies = g;
      String name = g == 1 ? " flies" : " dead";
      refused("13:" + name, x -> x.send(flies, 3), -2);
      refused("13:" + name + ", without", x -> x.send(flies, -1), -2);
      refused("13:" + name + ", no letter either", x -> x.send(flies, 9), -2);
      refused("15:" + name, x -> x.show(flies), -2);
      refused("17:" + name, x -> x.feed(flies), -2);
    }
    // on a deck, with a gull, lost, none such
    for (int l : new int[] {0, 1, 2, 5, -2, MIN, MAX}) refused("13: letter " + l, x -> x.send(0, l), -3);
    for (int n : new int[] {-1, 49, MIN, MAX}) refused("19: halves(" + n + ")", x -> x.halves(n), -1);
    refused("21: halves(0) is nothing to undo", x -> { x.halves(0); x.where(0, 1); return 0; }, 0);
    OneGullToABoat none = new OneGullToABoat();
    c.is("21: none", none.undo(), -1);
    c.is("21: none", none.count(10), 0);
  }

  private static void theDayFull() {
    refusedFull("12: 10 were", x -> x.write(0), -2);
    refusedFull("12: 10 were, the last boat", x -> x.write(5), -2);
    for (int b : new int[] {-1, 6, MIN, MAX}) {
      refusedFull("14: boat " + b, x -> x.paint(b, 0), -1);
      refusedFull("16: boat " + b, x -> x.chum(b, 0), -1);
    }
    for (int g : new int[] {-1, 8, MIN, MAX}) {
      refusedFull("13: gull " + g, x -> x.send(g, -1), -1);
      refusedFull("15: gull " + g, x -> x.show(g), -1);
      refusedFull("17: gull " + g, x -> x.feed(g), -1);
    }
    for (int l : new int[] {10, 11, -2, MIN, MAX}) refusedFull("13: letter " + l, x -> x.send(1, l), -3);
  }

  private static void halfHoursToCome() {
    for (int b : new int[] {-1, 3, MIN, MAX}) {
      refused("22: boat " + b, x -> x.where(b, 1), -1);
      refused("26: boat " + b, x -> x.due(b), -1);
      refused("28: one " + b, x -> x.nearest(b, 0), -1);
      refused("28: other " + b, x -> x.nearest(0, b), -1);
    }
    for (int n : new int[] {-1, 61, MIN, MAX}) {
      refused("22: n " + n, x -> x.where(0, n), -1);
      refused("25: n " + n, x -> x.delivers(n), -1);
    }
    for (int g : new int[] {-1, 4, MIN, MAX}) {
      refused("23: gull " + g, x -> x.comes(g), -1);
      refused("24: gull " + g, x -> x.would(g), -1);
      refused("27: gull " + g, x -> x.heads(g), -1);
    }
    for (int g : new int[] {0, 2, 3}) {
      refused("23: does not fly, " + g, x -> x.comes(g), -1);
      refused("27: does not fly, " + g, x -> x.heads(g), -1);
    }
    for (int g : new int[] {1, 2}) refused("24: does not rest, " + g, x -> x.would(g), -1);
    for (int b = 0; b < 3; b++) {
      int alike = b;
      refused("28: alike " + b, x -> x.nearest(alike, alike), -1);
    }
  }

  private static void orders() {
    for (int those : new int[] {-1, 8, 9, MIN, MAX}) {
      refused("29: those " + those, x -> x.shouted(those, 3, 1), -1);
      refused("30: those " + those, x -> x.spreads(those, 3), -1);
    }
    for (int shout : new int[] {-1, 16, MIN, MAX}) {
      refused("29: shout " + shout, x -> x.shouted(1, shout, 1), -1);
      refused("30: shout " + shout, x -> x.spreads(1, shout), -1);
      refused("31: shout " + shout, x -> x.teller(shout), -1);
      refused("32: shout " + shout, x -> x.order(shout, 1), -1);
    }
    for (int n : new int[] {-1, 61, MIN, MAX}) refused("29: n " + n, x -> x.shouted(1, 3, n), -1);
    refused("30: nobody told", x -> x.spreads(0, 3), -1);
    for (int n : new int[] {-1, 0, 61, MIN, MAX}) refused("32: n " + n, x -> x.order(3, n), -1);
  }

  private static void thievesToSeasons() {
    for (int n : new int[] {-1, 0, 61, MIN, MAX}) {
      refused("33: n " + n, x -> x.thief(n), -1);
      refused("35: n " + n, x -> x.fits(0, n), -1);
      refused("42: n " + n, x -> x.season(1, n, 1), -1);
    }
    for (int g : new int[] {-1, 4, MIN, MAX}) refused("35: gull " + g, x -> x.fits(g, 1), -1);
    for (int d : new int[] {-1, 31, MIN, MAX}) refused("36: d " + d, x -> x.ring(d), -1);
    for (int n : new int[] {-1, 0, 9, MIN, MAX}) refused("38: n " + n, x -> x.train(n, 5), -1);
    for (int p : new int[] {-1, 11, MIN, MAX}) refused("38: p " + p, x -> x.train(3, p), -1);
    for (int j : new int[] {-1, 0, 4, MIN, MAX}) refused("40: j " + j, x -> x.slip(j, 0), -1);
    for (int i : new int[] {-1, 2, 12, MIN, MAX}) refused("40: i " + i, x -> x.slip(1, i), -1);
    for (int a : new int[] {-1, 0, 4, MIN, MAX}) {
      refused("41: a " + a, x -> x.opens(a, 1, 2, 1), -1);
      refused("41: b " + a, x -> x.opens(2, 1, a, 1), -1);
    }
    for (int u : new int[] {-1, 11, MIN, MAX}) {
      refused("41: u " + u, x -> x.opens(1, u, 2, 1), -1);
      refused("41: v " + u, x -> x.opens(1, 1, 2, u), -1);
    }
    for (int a = 1; a <= 3; a++) {
      int alike = a;
      refused("41: alike " + a, x -> x.opens(alike, 1, alike, 1), -1);
    }
    for (int p : new int[] {-1, 0, 11, MIN, MAX}) refused("42: p " + p, x -> x.season(1, 1, p), -1);
  }

  private static void kept() {
    for (int i : new int[] {-1, 2, MIN, MAX}) {
      refused("43: keep(" + i + ")", x -> x.keep(i) ? 1 : 0, 0);
      refused("44: again(" + i + ")", x -> x.again(i) ? 1 : 0, 0);
      refusedFull("43: full, keep(" + i + ")", x -> x.keep(i) ? 1 : 0, 0);
      refusedFull("44: full, again(" + i + ")", x -> x.again(i) ? 1 : 0, 0);
    }
    refused("44: nothing kept", x -> x.again(1) ? 1 : 0, 0);
    Supplier<OneGullToABoat> boat = () -> { OneGullToABoat x = Twins.make(); Check.fleet(x, "1,1-0"); x.half(); return x; };
    same("44: a boat came since", boat, x -> x.again(0) ? 1 : 0, 0, true, true);
    Supplier<OneGullToABoat> gull = () -> { OneGullToABoat x = Twins.make(); Check.gulls(x, "a1"); x.half(); return x; };
    same("44: a gull came since", gull, x -> x.again(0) ? 1 : 0, 0, true, true);
    for (int what : new int[] {-1, 13, MIN, MAX}) refused("45: count(" + what + ")", x -> x.count(what), -1);
  }

  private static void thrown() {
    for (int i : new int[] {-1, 3, MIN, MAX}) refused("7: boat " + i, x -> Twins.thrown(y -> y.boat(i, 0), x), 1);
    for (int i : new int[] {-1, 7, MIN, MAX}) refused("7: what " + i, x -> Twins.thrown(y -> y.boat(0, i), x), 1);
    for (int i : new int[] {-1, 4, MIN, MAX}) refused("8: gull " + i, x -> Twins.thrown(y -> y.gull(i, 0), x), 1);
    for (int i : new int[] {-1, 8, MIN, MAX}) refused("8: what " + i, x -> Twins.thrown(y -> y.gull(0, i), x), 1);
    for (int i : new int[] {-1, 5, MIN, MAX}) refused("9: letter " + i, x -> Twins.thrown(y -> y.letter(i, 0), x), 1);
    for (int i : new int[] {-1, 3, MIN, MAX}) refused("9: what " + i, x -> Twins.thrown(y -> y.letter(0, i), x), 1);
    for (int i : new int[] {-1, 2, MIN, MAX}) refused("46: row " + i, x -> Twins.thrown(y -> y.row(i), x), 1);
    for (int i : new int[] {-1, 6, MAX}) refusedFull("7: full, boat " + i, x -> Twins.thrown(y -> y.boat(i, 0), x), 1);
    for (int i : new int[] {-1, 8, MAX}) refusedFull("8: full, gull " + i, x -> Twins.thrown(y -> y.gull(i, 0), x), 1);
    for (int i : new int[] {-1, 10, MAX}) refusedFull("9: full, letter " + i, x -> Twins.thrown(y -> y.letter(i, 0), x), 1);
    for (int i = 0; i < 7; i++) {
      int what = i;
      refused("7: what " + i + " is there", x -> Twins.thrown(y -> y.boat(2, what), x), 0);
      refusedFull("7: full, what " + i + " is there", x -> Twins.thrown(y -> y.boat(5, what), x), 0);
    }
    for (int i = 0; i < 8; i++) {
      int what = i;
      refused("8: what " + i + " is there", x -> Twins.thrown(y -> y.gull(3, what), x), 0);
      refusedFull("8: full, what " + i + " is there", x -> Twins.thrown(y -> y.gull(7, what), x), 0);
    }
    for (int i = 0; i < 3; i++) {
      int what = i;
      refused("9: what " + i + " is there", x -> Twins.thrown(y -> y.letter(4, what), x), 0);
      refusedFull("9: full, what " + i + " is there", x -> Twins.thrown(y -> y.letter(9, what), x), 0);
    }
  }

  /** What they answer here is told by other tests; these say that nothing but the ROW is another then. */
  private static void questions() {
    Twins.Call[] asked = {x -> x.where(0, 60), x -> x.comes(1), x -> x.would(0), x -> x.delivers(60), x -> x.due(0),
        x -> x.heads(1), x -> x.nearest(0, 1), x -> x.shouted(1, 15, 60), x -> x.shouted(0, 0, 0), x -> x.spreads(7, 0),
        x -> x.teller(15), x -> x.teller(0), x -> x.order(15, 60), x -> x.order(0, 1), x -> x.thief(60),
        x -> x.thief(1), OneGullToABoat::astray, x -> x.fits(0, 1), x -> x.fits(0, 60), x -> x.ring(0), x -> x.ring(30),
        OneGullToABoat::lonely, x -> x.train(8, 10), x -> x.train(1, 0), x -> x.slip(1, 0), x -> x.opens(1, 5, 2, 8),
        x -> x.opens(1, 10, 3, 10), x -> x.season(7, 60, 1), x -> x.season(7, 60, 10), x -> x.season(MIN, 1, 1)};
    for (int i = 0; i < asked.length; i++) question("t2: question " + i, asked[i], asked[i].on(Twins.make()));
  }

  /** Calls that do not tell a ROW, and answers below 0, leave the one told last. */
  private static void rowIsLeft() {
    Twins.Call[] calls = {x -> x.sign(0), x -> x.end(0) ? 1 : 0, OneGullToABoat::fleet, x -> Check.fleet(x, "1,1-0"),
        OneGullToABoat::gulls, x -> Check.gulls(x, "a1"), OneGullToABoat::rule, x -> Check.rule(x, "p"),
        x -> x.boat(0, 0), x -> x.gull(0, 0), x -> x.letter(0, 0), x -> x.weather(0, 1), x -> x.sheet(2, 1, 1, 1),
        x -> x.sheet(3, 0, 0, 0), x -> x.write(0), x -> x.send(0, 3), x -> x.paint(0, 1), x -> x.show(0),
        x -> x.chum(0, 1), x -> x.feed(0), OneGullToABoat::undo, x -> x.spreads(7, 0), x -> x.spreads(1, 0),
        x -> Check.codes(x, "1", 1), x -> x.slip(1, 0), x -> x.keep(1) ? 1 : 0, x -> x.again(0) ? 1 : 0,
        x -> x.count(11), x -> x.row(0), x -> Check.day(x, "x"), x -> x.teller(0), x -> x.order(0, 1),
        x -> x.opens(1, 10, 3, 10)};
    for (int i = 0; i < calls.length; i++) {
      OneGullToABoat x = Twins.make();
      calls[i].on(x);
      c.row("t2: row behind call " + i, x, 1, 0);
    }
  }
}
