/** Promises 12 to 21: write, send, paint, show, chum, feed, half hours, days, undo. */
public final class DayTest {
  private static final Check c = new Check();

  public static void main(String[] args) {
    write();
    send();
    paintAndShow();
    chumAndFeed();
    half();
    goals();
    deaths();
    halves();
    day();
    dayFaults();
    undo();
    undoForgets();
    c.end("DayTest");
  }

  private static void write() {
    OneGullToABoat x = Check.sea("4,3-0;5,5-0", "a5");
    c.is("12: none such", x.write(2), -1);
    c.is("12: below 0", x.write(-1), -1);
    for (int i = 0; i < 10; i++) c.is("12: number", x.write(i % 2), i);
    c.letter(x, 3, 1, 0, -1);
    c.is("12: 10 were", x.write(0), -2);
    c.is("12: none such", x.write(2), -1);
    c.is("12: basket", x.count(8), 1023);
    x.undo();
    c.is("12: nine again", x.write(0), 9);
    OneGullToABoat y = Check.sea("4,3-0;5,5-0", "a9");
    y.keep(0);
    y.write(0);
    y.send(0, 0);
    y.half();
    y.again(0);
    y.write(1);
    c.letter(y, 0, 1, 0, -1);
  }

  private static void send() {
    OneGullToABoat x = Check.sea("4,3-0;5,5-0", "a5;b5;b5");
    x.write(0);
    c.is("13: no such gull", x.send(3, 0), -1);
    c.is("13: gull -1", x.send(-1, 0), -1);
    c.is("13: no such letter", x.send(0, 1), -3);
    c.is("13: letter -2", x.send(0, -2), -3);
    c.is("13: nothing is sent", x.count(6), 0);
    c.is("13: how far", x.send(0, 0), 7);
    c.is("13: flies", x.gull(0, 6), 1);
    c.is("13: it does not rest", x.send(0, -1), -2);
    c.is("13: that first", x.send(0, 5), -2);
    c.is("13: letter with a gull", x.send(1, 0), -3);
    c.is("13: without", x.send(1, -1), 10);
    x.halves(3);
    c.is("13: letter on a deck", x.send(2, 0), -3);
    x.sheet(2, 8, 9, 0);
    x.send(2, -1);
    x.half();
    c.is("13: dead", x.send(2, -1), -2);
  }

  private static void paintAndShow() {
    OneGullToABoat x = Check.sea("4,3-0", "a5");
    c.is("14: was", x.paint(0, 5), 0);
    c.is("14: was then", x.paint(0, 3), 5);
    c.is("14: hull 6", x.paint(0, 6), -1);
    c.is("14: hull -1", x.paint(0, -1), -1);
    c.is("14: no boat", x.paint(1, 0), -1);
    c.is("14: no boat -1", x.paint(-1, 0), -1);
    c.is("14: hull", x.boat(0, 4), 3);
    c.is("14: the gull looks for another", x.gull(0, 1), 0);
    c.is("15: none such", x.show(1), -1);
    c.is("15: -1", x.show(-1), -1);
    c.is("15: looks for", x.show(0), 3);
    c.is("15: looks for it from now on", x.gull(0, 1), 3);
    x.send(0, -1);
    c.is("15: it does not rest", x.show(0), -2);
    x.sheet(2, 8, 9, 0);
    x.half();
    c.is("15: dead", x.show(0), -2);
  }

  private static void chumAndFeed() {
    OneGullToABoat x = Check.sea("4,3-0", "a5");
    c.is("16: out", x.chum(0, 1), 0);
    c.is("16: out still", x.chum(0, 1), 1);
    c.is("16: v 2", x.chum(0, 2), -1);
    c.is("16: v -1", x.chum(0, -1), -1);
    c.is("16: no boat", x.chum(1, 0), -1);
    c.is("16: no boat -1", x.chum(-1, 0), -1);
    c.is("16: is out", x.boat(0, 5), 1);
    c.is("16: in", x.chum(0, 0), 1);
    c.is("16: is in", x.boat(0, 5), 0);
    x.sheet(2, 8, 7, 0);
    c.is("17: had", x.feed(0), 7);
    c.is("17: has", x.gull(0, 3), 0);
    c.is("17: had none", x.feed(0), 0);
    c.is("17: none such", x.feed(1), -1);
    c.is("17: -1", x.feed(-1), -1);
    x.send(0, -1);
    c.is("17: it does not rest", x.feed(0), -2);
  }

  private static void half() {
    OneGullToABoat x = Check.sea("2,2-0;3,0e1", "a9;b9;a2");
    x.write(1);
    x.write(0);
    x.send(0, 0);
    x.send(1, -1);
    x.send(2, 1);
    c.is("18: two came", x.half(), 2);
    c.row("18", x, 3, 1, 0);
    c.is("18: now", x.count(3), 1);
    c.letter(x, 0, 1, 2, 0);
    c.gull(x, 2, 0, 0, 2, 1, 1, 0, 1, 1);
    c.is("18: none", x.half(), 0);
    c.row("18", x, 0, 0, 0);
    c.gull(x, 2, 0, 0, 2, 2, 2, 1, 1, 1);
    c.is("18: the last", x.half(), 1);
    c.row("18", x, 4, 2, 0);
    c.is("18: decks", x.boat(0, 6), 3);
  }

  private static void goals() {
    // a storm: the nearest, of as near ones the first, whatever hull
    OneGullToABoat x = Check.sea("5,0-0;0,3-1;3,0-2", "a1");
    x.paint(0, 5);
    x.send(0, -1);
    x.heads(0);
    c.row("18: ashore", x, -1, 0);
    x.weather(1, 1);
    c.is("18: storm", x.heads(0), 3);
    c.row("18: storm", x, 1, 0);
    // chum: 4 or nearer, and hunger 6 or more, else its own boat
    OneGullToABoat y = Check.sea("9,0-0;0,5-1;4,0-2;1,3-3", "a3");
    y.send(0, -1);
    for (int b = 1; b < 4; b++) y.chum(b, 1);
    y.sheet(2, 8, 5, 0);
    y.heads(0);
    c.row("18: hunger 5", y, 0, 3);
    y.sheet(2, 8, 6, 0);
    y.heads(0);
    c.row("18: hunger 6, of as near the first", y, 2, 3);
    y.chum(2, 0);
    y.heads(0);
    c.row("18: the other", y, 3, 3);
    y.chum(3, 0);
    y.heads(0);
    c.row("18: 5 is too far", y, 0, 3);
    y.weather(1, 1);
    y.chum(1, 1);
    y.heads(0);
    c.row("18: the storm is first", y, 2, 3);
    // chum of its own boat calls, if it has another hull too
    OneGullToABoat z = Check.sea("2,0-0", "a3");
    z.paint(0, 1);
    z.chum(0, 1);
    z.sheet(2, 8, 6, 0);
    z.send(0, -1);
    c.is("18: its own chum", z.half(), 1);
    // boats go first, then gulls: one that leaves is not met where it was
    OneGullToABoat w = Check.sea("3,0e0;9,0w1", "a4;b8");
    w.send(0, -1);
    w.send(1, -1);
    w.half();
    c.gull(w, 0, 0, 0, 4, 1, 3, 0, 1, -1);
    c.gull(w, 1, 1, 1, 8, 1, 7, 0, 1, -1);
    c.is("18: met", w.half(), 2);
    // it goes back ashore from where it is, and its letter comes into the basket; hunger stays
    OneGullToABoat v = Check.sea("9,9-0", "a4");
    v.write(0);
    v.send(0, 0);
    v.halves(3);
    c.gull(v, 0, 0, 0, 4, 3, 9, 2, 1, 0);
    v.paint(0, 1);
    v.halves(2);
    c.gull(v, 0, 0, 0, 4, 5, 1, 2, 1, 0);
    c.is("18: ashore is no boat", v.half(), 0);
    c.row("18: ashore", v, 0, 0, 0);
    c.gull(v, 0, 0, 0, 4, 5, 0, 0, 0, -1);
    c.letter(v, 0, 0, 0, -1);
    // a cell short of ashore is not there
    OneGullToABoat u = Check.sea("4,0-0;0,4-1", "a3;b3");
    Check.rule(u, "p");
    u.send(0, -1);
    u.send(1, -1);
    u.half();
    c.gull(u, 0, 0, 0, 3, 1, 3, 0, 1, -1);
    c.gull(u, 1, 1, 1, 3, 1, 0, 3, 1, -1);
    u.paint(0, 5);
    u.paint(1, 5);
    Check.rule(u, "2");
    u.half();
    c.gull(u, 0, 0, 0, 3, 2, 1, 0, 1, -1);
    c.gull(u, 1, 1, 1, 3, 2, 0, 1, 1, -1);
    u.half();
    c.is("18: ashore", u.count(6), 0);
  }

  private static void deaths() {
    OneGullToABoat x = Check.sea("15,15-0", "a1");
    Check.rule(x, "1");
    x.write(0);
    x.send(0, 0);
    x.halves(9);
    c.gull(x, 0, 0, 0, 1, 9, 9, 0, 1, 0);
    c.is("18: it dies", x.half(), 0);
    c.row("18: it dies", x, 0, 0, 1);
    c.gull(x, 0, 0, 0, 1, 9, 10, 0, 2, -1);
    c.letter(x, 0, 0, 3, -1);
    c.is("18: dead ones", x.count(7), 1);
    c.is("18: lost ones", x.count(9), 1);
    x.half();
    c.gull(x, 0, 0, 0, 1, 9, 10, 0, 2, -1);
    // with hunger 9 it does not die if it comes
    OneGullToABoat y = Check.sea("3,0-0", "a3");
    y.sheet(2, 8, 9, 0);
    y.send(0, -1);
    c.is("18: it comes", y.half(), 1);
    c.is("18: not hungry", y.gull(0, 3), 0);
  }

  private static void halves() {
    OneGullToABoat x = Check.sea("4,0-0;0,9-1;15,15-2", "a3;b9;c1");
    x.write(0);
    x.write(1);
    x.write(2);
    x.sheet(2, 3, 1, 4);
    for (int g = 0; g < 3; g++) x.send(g, g);
    c.is("19: -1", x.halves(-1), -1);
    c.is("19: 49", x.halves(49), -1);
    c.is("19: refused", x.count(3), 0);
    c.is("19: 48", x.halves(48), 2);
    c.row("19: 48", x, 3, 3, 4);
    c.is("19: now", x.count(3), 48);
    c.is("19: 0", x.halves(0), 0);
    c.row("19: 0", x, 0, 0, 0);
    c.is("19: now", x.count(3), 48);
  }

  private static void day() {
    OneGullToABoat x = Check.sea("4,0-0;0,9-1", "a3;b9");
    c.is("20: empty", Check.day(x, ""), 0);
    c.row("20: empty", x, 0, 0);
    c.is("20: all acts", Check.day(x, "wa;wb;s00;s11;h2;h;pa5;o0;cb;f1"), 10);
    c.row("20: all acts", x, 0, 2);
    c.is("20: now", x.count(3), 3);
    c.is("20: deck", x.boat(0, 6), 1);
    c.is("20: deck", x.boat(1, 6), 2);
    c.is("20: painted", x.boat(0, 4), 5);
    c.is("20: shown", x.gull(0, 1), 5);
    c.is("20: chum is out", x.boat(1, 5), 1);
    c.is("20: one to undo", x.count(10), 1);
    c.is("20: chum in", Check.day(x, "cb"), 1);
    c.is("20: chum is in", x.boat(1, 5), 0);
    c.is("20: none is done behind one that can't be", Check.day(x, "h;wc;h"), 1);
    c.row("20: one could not be", x, 1, 0);
    c.is("20: now", x.count(3), 4);
    c.is("20: cf is none such", Check.day(x, "cf"), 0);
    c.row("20: cf", x, 1, 0);
    c.is("20: nothing more to undo", x.count(10), 3);
    c.is("20: s9-", Check.day(x, "s9-"), 0);
    c.is("20: pc0", Check.day(x, "pc0"), 0);
    c.is("20: f5", Check.day(x, "f5"), 0);
    c.is("20: o5", Check.day(x, "o5"), 0);
    c.is("20: send without", Check.day(x, "s0-;f0"), 1);
    c.is("20: it flies", x.count(6), 1);
    c.is("20: h9", Check.day(x, "h9"), 1);
    c.row("20: h9", x, 0, 1);
    c.is("20: now", x.count(3), 13);
    x.sheet(2, 8, 3, 0);
    c.is("20: feed", Check.day(x, "f1"), 1);
    c.is("20: fed", x.gull(1, 3), 0);
  }

  private static void dayFaults() {
    OneGullToABoat x = Check.sea("4,0-0", "a3");
    x.half();
    String[] colons = {"h:", "s:0", "s0:", "f:", "o:", "pa:"};
    int[] there = {1, 1, 2, 1, 1, 2};
    for (int i = 0; i < colons.length; i++) c.is("20: " + colons[i], Check.day(x, colons[i]), -1 - there[i]);
    String[] bad = {"x", "w", "wg", "s", "sa", "s0", "s0a", "s0-0", "p", "pg", "pa", "pa6", "c", "cg", "f", "fa", "o",
        "oa", "h0", "h12", "h;", ";", "h;;h", "hh", "wa1", "h h"};
    int[] at = {0, 1, 1, 1, 1, 2, 2, 3, 1, 1, 2, 2, 1, 1, 1, 1, 1, 1, 1, 2, 2, 0, 2, 1, 2, 1};
    for (int i = 0; i < bad.length; i++) c.is("20: " + bad[i], Check.day(x, bad[i]), -1 - at[i]);
    c.row("20: the row stays", x, 0, 0, 0);
    c.is("20: nothing is done", Check.day(x, "h;h;x"), -5);
    c.is("20: now", x.count(3), 1);
    c.is("20: the text is empty then", x.count(12), 0);
    StringBuilder s = new StringBuilder("h");
    while (s.length() < 59) s.append(";h");
    c.is("20: 59 signs", Check.day(x, s.toString()), 30);
    c.is("20: 60 signs", Check.day(x, s + "2"), 30);
    c.is("20: now", x.count(3), 1 + 30 + 31);
    c.is("20: 60 signs that end too early", Check.day(x, s + ";"), -61);
    c.is("20: 61 signs", Check.day(x, s + ";h"), -61);
    c.is("20: 61 signs, any", Check.day(x, s + "2x"), -61);
    c.is("20: 61 signs, bad ahead", Check.day(x, "hx" + s), -2);
    c.is("20: nothing is done", x.count(3), 62);
  }

  private static void undo() {
    OneGullToABoat x = Check.sea("4,0-0;9,9-1", "a3;b5");
    c.is("21: none", x.undo(), -1);
    x.write(0);
    x.send(0, 0);
    x.paint(1, 4);
    x.show(1);
    x.chum(0, 1);
    x.sheet(2, 8, 2, 0);
    x.feed(1);
    x.half();
    x.halves(3);
    x.halves(0);
    Check.day(x, "h;wb");
    Check.day(x, "wc;h");
    x.write(5);
    x.send(5, 0);
    x.paint(1, 9);
    x.show(5);
    x.chum(0, 2);
    x.feed(5);
    x.halves(50);
    c.is("21: such as were done", x.count(10), 9);
    c.is("21: day()", x.undo(), 8);
    c.is("21: letters", x.count(2), 1);
    c.is("21: now", x.count(3), 4);
    c.is("21: halves()", x.undo(), 7);
    c.is("21: now", x.count(3), 1);
    c.gull(x, 0, 0, 0, 3, 3, 3, 0, 1, 0);
    c.is("21: half()", x.undo(), 6);
    c.gull(x, 0, 0, 0, 3, 2, 0, 0, 1, 0);
    c.is("21: feed()", x.undo(), 5);
    c.is("21: hunger", x.gull(1, 3), 2);
    c.is("21: chum()", x.undo(), 4);
    c.is("21: chum", x.boat(0, 5), 0);
    c.is("21: hunger is as ahead of chum(), so the sheet is gone", x.gull(1, 3), 0);
    c.is("21: show()", x.undo(), 3);
    c.is("21: hull looked for", x.gull(1, 1), 1);
    c.is("21: paint()", x.undo(), 2);
    c.is("21: hull", x.boat(1, 4), 1);
    c.is("21: send()", x.undo(), 1);
    c.is("21: rests", x.gull(0, 6), 0);
    c.letter(x, 0, 0, 0, -1);
    c.is("21: write()", x.undo(), 0);
    c.is("21: letters", x.count(2), 0);
    c.is("21: none", x.undo(), -1);
    for (int i = 0; i < 15; i++) x.half();
    c.is("21: 12 are kept", x.count(10), 12);
    for (int i = 11; i >= 0; i--) {
      c.is("21: left", x.undo(), i);
      c.is("21: the latest ones", x.count(3), i + 3);
    }
    c.is("21: none", x.undo(), -1);
    x.weather(0, 5);
    x.weather(1, 1);
    x.half();
    x.weather(0, 6);
    x.weather(1, 0);
    x.undo();
    c.is("21: wind stays", x.count(4), 6);
    c.is("21: storm stays", x.count(5), 0);
    x.halves(30);
    Check.day(x, "h3");
    x.undo();
    c.is("21: as ahead of the day", x.count(3), 33);
    x.undo();
    x.chum(0, 0);
    c.is("21: what changed nothing was done too", x.undo(), 0);
  }

  private static void undoForgets() {
    OneGullToABoat x = Check.sea("4,0-0", "a3");
    x.half();
    c.is("21: empty fleet", Check.fleet(x, ""), 0);
    c.is("21: empty gulls", Check.gulls(x, ""), 0);
    Check.fleet(x, "x");
    Check.gulls(x, "x");
    x.again(0);
    x.again(5);
    Check.rule(x, "p");
    c.is("21: refused ones, empty ones do not", x.count(10), 1);
    Check.gulls(x, "a1");
    c.is("21: gulls() forgets", x.undo(), -1);
    x.half();
    Check.fleet(x, "1,1-0");
    c.is("21: fleet() forgets", x.undo(), -1);
    x.keep(0);
    x.half();
    x.again(0);
    c.is("21: again() forgets", x.undo(), -1);
  }
}
