/** Promises 22 to 36: half hours to come, orders, thieves, where boats were. */
public final class AheadTest {
  private static final Check c = new Check();

  public static void main(String[] args) {
    where();
    comes();
    would();
    delivers();
    due();
    heads();
    nearest();
    shouted();
    spreads();
    teller();
    order();
    thief();
    astray();
    fits();
    ring();
    questionsChangeNothing();
    c.end("AheadTest");
  }

  private static void where() {
    OneGullToABoat x = Check.sea("4,3-0;10,0w1;2,2se2", "a1");
    c.is("22: now", x.where(1, 0), 10);
    c.row("22: now", x, -1, 0);
    c.is("22: at the end of the sea", x.where(1, 10), 0);
    c.row("22: still", x, -1, 0);
    c.is("22: turned round", x.where(1, 11), 0);
    c.row("22: turned round", x, 1, 0);
    c.is("22: back", x.where(1, 12), 1);
    c.is("22: both parts", x.where(2, 14), 255);
    c.row("22: both parts", x, -1, -1);
    c.is("22: 60", x.where(0, 60), 16 * 3 + 4);
    c.is("22: 61", x.where(0, 61), -1);
    c.is("22: -1", x.where(0, -1), -1);
    c.is("22: no boat", x.where(3, 1), -1);
    c.is("22: boat -1", x.where(-1, 1), -1);
    c.row("22: refused, the row stays", x, 0, 0);
  }

  private static void comes() {
    OneGullToABoat x = Check.sea("4,3-0;9,0-1;15,15-2", "a3;b5;c1");
    c.is("23: rests", x.comes(0), -1);
    x.send(0, -1);
    x.send(2, -1);
    c.is("23: 2 and 3 and 3 cells", x.comes(0), 3);
    c.row("23", x, 0);
    c.is("23: dies", x.comes(2), -2);
    c.row("23: the row stays", x, 0);
    c.is("23: none such", x.comes(3), -1);
    c.is("23: -1", x.comes(-1), -1);
    x.paint(0, 4);
    c.is("23: rests first", x.comes(0), -2);
    x.weather(1, 1);
    c.is("23: in a storm", x.comes(0), 3);
    OneGullToABoat y = Check.sea("15,15-0", "a1");
    y.send(0, -1);
    y.sheet(2, 8, 9, 0);
    y.half();
    c.is("23: dead", y.comes(0), -1);
    // the boat sails on, and wind and half hours go into the rule
    OneGullToABoat w = Check.sea("5,0e0", "a1");
    Check.rule(w, "w+s");
    w.weather(0, 2);
    w.send(0, -1);
    // boat 6 7 8 9, gull 2 5 8: met in the third
    c.is("23: a boat that sails", w.comes(0), 3);
    // hungry: another boat's chum
    OneGullToABoat z = Check.sea("15,0-0;7,3-1", "a1");
    Check.rule(z, "1");
    z.chum(1, 1);
    z.send(0, -1);
    // 6 half hours to 6,0 (hunger 6), then by 4 cells to 7,3
    c.is("23: chum", z.comes(0), 10);
    c.row("23: chum", z, 1);
  }

  private static void would() {
    OneGullToABoat x = Check.sea("4,3-0;9,0-1", "a3;b5");
    c.is("24: gull 1", x.would(1), 2);
    c.row("24: gull 1", x, 1);
    x.sheet(2, 8, 1, 0);
    c.is("24: hungry", x.would(1), 2);
    Check.rule(x, "9*(l<1)");
    x.write(0);
    c.is("24: without a letter", x.would(0), 1);
    c.is("24: all else as it is", x.count(6), 0);
    Check.rule(x, "0");
    c.is("24: dies", x.would(0), -2);
    x.send(0, -1);
    c.is("24: flies", x.would(0), -1);
    c.is("24: none such", x.would(2), -1);
    c.is("24: -1", x.would(-1), -1);
    x.paint(1, 5);
    c.is("24: rests first", x.would(1), -2);
  }

  private static void delivers() {
    OneGullToABoat x = Check.sea("4,0-0;0,4-1;15,15-2", "a3;b2;c1");
    x.write(0);
    x.write(0);
    x.write(2);
    x.write(1);
    for (int g = 0; g < 3; g++) x.send(g, g);
    c.is("25: now", x.delivers(0), 0);
    c.row("25: now", x, 0, 0);
    // gull 0: 2 and 3 cells; gull 1: 1 and 2 and 2
    c.is("25: 1", x.delivers(1), 0);
    c.is("25: 2", x.delivers(2), 1);
    c.row("25: 2", x, 0, 0);
    c.is("25: 3", x.delivers(3), 1);
    c.row("25: 3", x, 2, 0);
    c.is("25: 60", x.delivers(60), 1);
    c.row("25: 60", x, 2, 4);
    x.halves(48);
    c.is("25: those there already", x.delivers(0), 1);
    c.row("25: those there already", x, 2, 4);
    c.is("25: 61", x.delivers(61), -1);
    c.is("25: -1", x.delivers(-1), -1);
  }

  private static void due() {
    OneGullToABoat x = Check.sea("4,0-0;0,4-1", "a9;b9;a9;a1");
    for (int i = 0; i < 6; i++) x.write(0);
    x.write(1);
    x.send(0, 0);
    x.send(1, 1);
    x.half();
    Check.rule(x, "0");
    x.sheet(2, 4, 0, 3);
    x.send(3, 2);
    x.send(2, 3);
    x.half();
    c.is("26: boat 0", x.due(0), 62);
    c.row("26: boat 0", x, 48, 8, 2, 4);
    c.is("26: boat 1", x.due(1), 64);
    c.row("26: boat 1", x, 64, 0, 0, 0);
    c.is("26: none such", x.due(2), -1);
    c.is("26: -1", x.due(-1), -1);
  }

  private static void heads() {
    OneGullToABoat x = Check.sea("4,3e0", "a5;a9");
    c.is("27: rests", x.heads(0), -1);
    x.send(0, -1);
    c.is("27: ahead of a half hour", x.heads(0), 7);
    c.row("27", x, 0, 4);
    x.half();
    c.is("27: where it is", x.heads(0), 4);
    c.row("27: no farther than there", x, 0, 4);
    x.paint(0, 3);
    c.is("27: ashore", x.heads(0), 4);
    c.row("27: ashore", x, -1, 4);
    OneGullToABoat y = Check.sea("4,3-0", "a6");
    Check.rule(y, "p");
    y.send(0, -1);
    y.half();
    y.paint(0, 3);
    c.is("27: ashore by x and y", y.heads(0), 6);
    c.row("27: ashore by x and y", y, -1, 6);
    c.is("27: none such", x.heads(2), -1);
    c.is("27: -1", x.heads(-1), -1);
    Check.rule(x, "0");
    x.sheet(2, 8, 9, 0);
    x.half();
    c.is("27: dead", x.heads(0), -1);
  }

  private static void nearest() {
    OneGullToABoat x = Check.sea("4,3-0;10,0w1;2,2se2;9,9-3", "a1");
    c.is("28: 6", x.nearest(0, 1), 6);
    c.row("28: 3", x, 3);
    c.is("28: the other way", x.nearest(1, 0), 6);
    c.is("28: of equal ones the first", x.nearest(0, 3), 0);
    c.row("28: equal", x, 11);
    // boat 2 sails the diagonal: 2,2 is 3 from 4,3; 3,3 is 1 and 4,4 is 1
    c.is("28: first of two", x.nearest(0, 2), 1);
    c.row("28: 1", x, 1);
    c.is("28: now is one of them", x.nearest(3, 2), 7);
    c.row("28: 0", x, 0);
    c.is("28: alike", x.nearest(1, 1), -1);
    c.is("28: none such", x.nearest(0, 4), -1);
    c.is("28: none such", x.nearest(4, 0), -1);
    c.is("28: -1", x.nearest(-1, 0), -1);
  }

  private static void shouted() {
    OneGullToABoat x = Check.sea("0,0-0;3,0-1;6,0-2;15,0w3", "a1");
    c.is("29: as often as it helps", x.shouted(1, 3, 0), 7);
    c.row("29: at once", x, 0, 0, 0, -1);
    c.is("29: back from the far end", x.shouted(4, 3, 0), 7);
    // boat 3 is at 2,0 in half hour 13 (1 from boat 1), and back at 4,0 in half hour 20
    c.is("29: too far", x.shouted(1, 2, 19), 11);
    c.row("29: boat 3 comes by", x, 0, 13, -1, 13);
    c.is("29: and back", x.shouted(1, 2, 20), 15);
    c.row("29: and back", x, 0, 13, 20, 13);
    c.is("29: not in these", x.shouted(1, 2, 12), 1);
    c.row("29: not in these", x, 0, -1, -1, -1);
    c.is("29: boat 3 carries it", x.shouted(8, 2, 60), 15);
    c.row("29: boat 3 carries it", x, 13, 10, 7, 0);
    c.is("29: nobody", x.shouted(0, 15, 60), 0);
    c.row("29: nobody", x, -1, -1, -1, -1);
    c.is("29: none such", x.shouted(16, 3, 1), -1);
    c.is("29: those -1", x.shouted(-1, 3, 1), -1);
    c.is("29: shout 16", x.shouted(1, 16, 1), -1);
    c.is("29: shout -1", x.shouted(1, -1, 1), -1);
    c.is("29: n 61", x.shouted(1, 3, 61), -1);
    c.is("29: n -1", x.shouted(1, 3, -1), -1);
    OneGullToABoat y = new OneGullToABoat();
    c.is("29: no boats", y.shouted(0, 3, 1), 0);
    c.row("29: no boats", y);
  }

  private static void spreads() {
    OneGullToABoat x = Check.sea("0,0-0;3,0-1;6,0-2;15,0w3", "a1");
    c.is("30: at once", x.spreads(1, 9), 0);
    c.is("30: boat 3 comes", x.spreads(1, 3), 6);
    c.is("30: boat 3 carries it", x.spreads(8, 2), 13);
    c.is("30: boat 3 comes and goes", x.spreads(1, 2), 20);
    c.is("30: all told", x.spreads(15, 0), 0);
    c.is("30: nobody told", x.spreads(0, 3), -1);
    c.is("30: none such", x.spreads(16, 3), -1);
    c.is("30: -1", x.spreads(-1, 3), -1);
    c.is("30: shout 16", x.spreads(1, 16), -1);
    c.is("30: shout -1", x.spreads(1, -1), -1);
    // found by a search with the program, and confirmed by PlainModel
    OneGullToABoat z = Check.sea("14,8-0;9,1se1;4,3s2;4,8w3;7,6s4;2,6ne5", "a1");
    c.is("30: in the last of these", z.spreads(8, 2), 60);
    OneGullToABoat y = Check.sea("0,0-0;3,0-1", "a1");
    c.is("30: never", y.spreads(1, 2), -2);
  }

  private static void teller() {
    OneGullToABoat x = Check.sea("0,0-0;3,0-1;6,0-2;15,0w3", "a1");
    // told alone, with SHOUT 2: boat 3 by 13; boats 1 and 2 tell boat 3, so by 13 too; boat 0 by 20
    c.is("31: boat 1", x.teller(2), 1);
    c.row("31: boat 1", x, 13);
    c.is("31: of equal ones the first", x.teller(3), 0);
    c.row("31: equal", x, 6);
    c.is("31: shout 16", x.teller(16), -1);
    c.is("31: shout -1", x.teller(-1), -1);
    // found by a search with the program, and confirmed by PlainModel
    OneGullToABoat z = Check.sea("8,12w0;10,14-1;5,9-2;9,15n3;0,14sw4;12,10ne5", "a1");
    c.is("31: late", z.teller(1), 1);
    c.row("31: late", z, 59);
    OneGullToABoat y = Check.sea("0,0-0;3,0-1", "a1");
    c.is("31: by none", y.teller(2), -2);
    c.is("31: at once", y.teller(3), 0);
    c.row("31: at once", y, 0);
    c.is("31: no boats", new OneGullToABoat().teller(3), -2);
  }

  private static void order() {
    OneGullToABoat x = Check.sea("4,0-0;9,0-1;0,9-2", "a5;b3;c9;c3;b9");
    // comes: gull 0 to a in 1; 1 to b in 4; 2 to c in 2; 3 to c in 4; 4 to b in 2
    c.is("32: one each", x.order(0, 4), 3);
    c.row("32: of as few the least", x, 7, 4);
    c.is("32: in 3", x.order(0, 3), 3);
    c.row("32: the quick ones", x, 21, 2);
    c.is("32: in 1", x.order(0, 1), -2);
    c.row("32: the row stays", x, 21, 2);
    c.is("32: a tells b", x.order(5, 60), 2);
    c.row("32: a tells b", x, 5, 2);
    c.is("32: all hear", x.order(15, 60), 1);
    c.row("32: the least, not the soonest", x, 1, 1);
    x.send(0, -1);
    c.is("32: such as rest", x.order(15, 60), 1);
    c.row("32: such as rest", x, 2, 4);
    c.is("32: n 0", x.order(3, 0), -1);
    c.is("32: n 61", x.order(3, 61), -1);
    c.is("32: shout 16", x.order(16, 1), -1);
    c.is("32: shout -1", x.order(-1, 1), -1);
    // a storm: every gull comes to the nearest deck, and tells that one
    x.weather(1, 1);
    c.is("32: in a storm", x.order(0, 60), -2);
    // shouted from then on, not ahead: boat b is near a in half hours 0 and 1 only
    OneGullToABoat y = Check.sea("8,0-0;9,0e1", "a4");
    c.is("32: told too late", y.order(2, 5), -2);
    c.is("32: told when it is back", y.order(2, 60), 1);
    c.row("32: told when it is back", y, 1, 12);
    OneGullToABoat none = new OneGullToABoat();
    c.is("32: no boats", none.order(3, 1), 0);
    c.row("32: no boats", none, 0, 0);
    // gulls 0 and 1 come in 3 and 2, when the boats are apart; gull 2 in 1, when they are not
    OneGullToABoat z = Check.sea("4,0-0;5,0e1", "a2;b4;a5");
    c.is("32: fewer behind more", z.order(2, 10), 1);
    c.row("32: fewer behind more", z, 4, 1);
    // the boat sails on: 6,0 then 7,0, gull 4,0 then 7,0
    OneGullToABoat v = Check.sea("5,0e0", "a5");
    c.is("32: a boat that sails", v.order(0, 60), 1);
    c.row("32: a boat that sails", v, 1, 2);
  }

  private static void thief() {
    OneGullToABoat x = Check.sea("2,2-0;9,0-1;1,3-2", "b1;b1;c1");
    for (int i = 0; i < 3; i++) x.write(1);
    x.sheet(2, 8, 6, 0);
    for (int g = 0; g < 3; g++) x.send(g, g);
    // gull 2 brings letter 2 to c as it is; gulls 0 and 1 die on their way to b
    c.is("33: as it is", x.thief(4), 0);
    c.row("33: as it is", x, 3, 1);
    x.chum(2, 1);
    c.is("33: of equal ones the first; no other one had", x.thief(4), 0);
    c.row("33: chum as it is now", x, 3, 3);
    c.is("33: too soon", x.thief(1), 0);
    c.row("33: too soon", x, 0, 0);
    x.halves(4);
    c.is("33: those that come", x.thief(60), 0);
    c.row("33: not those that are there", x, 0, 0);
    c.is("33: 0", x.thief(0), -1);
    c.is("33: 61", x.thief(61), -1);
    c.is("33: no boats", new OneGullToABoat().thief(1), -2);
    OneGullToABoat y = Check.sea("9,0-0;0,4-1;1,3-2", "a1");
    y.write(1);
    y.sheet(2, 8, 6, 0);
    y.send(0, 0);
    c.is("33: a letter for it is not stolen", y.thief(4), 2);
    c.row("33: a letter for it", y, 1, 0);
  }

  private static void astray() {
    OneGullToABoat x = Check.sea("4,0-0;0,3-1", "a3;b3;a3;b3");
    c.is("34: none fly", x.astray(), 0);
    c.row("34: none fly", x, 0);
    x.send(0, -1);
    x.send(1, -1);
    x.send(2, -1);
    c.is("34: to their own", x.astray(), 0);
    x.paint(0, 3);
    c.is("34: ashore is no boat", x.astray(), 0);
    c.row("34: ashore", x, 5);
    x.chum(0, 1);
    x.sheet(2, 2, 9, 0);
    c.is("34: chum", x.astray(), 2);
    c.row("34: chum", x, 4);
    x.weather(1, 1);
    c.is("34: storm", x.astray(), 5);
    c.row("34: storm", x, 0);
  }

  private static void fits() {
    OneGullToABoat x = Check.sea("4,3-0;10,0w1;2,2se2;9,9e3", "a5;b3;c1;d9");
    c.is("35: 6 to 10 away", x.fits(0, 2), 7 + 8 + 9 + 10 + 11);
    c.row("35: 6 to 10 away", x, 6, 160);
    c.is("35: 1", x.fits(1, 1), 10);
    c.row("35: 1", x, 0, 48);
    // pace 1 against se: the boat is never caught, but at 1 .. from -: it must have been at sea at first
    c.is("35: never", x.fits(2, 3), 0);
    c.row("35: never", x, -1, -1);
    // east by 1, from x 0 on: cells 1 .. 9 of row 0 and so on, 9 cells away at most
    c.is("35: east", x.fits(3, 1), 9 + 9 + 8 + 7 + 6 + 5 + 4 + 3 + 2 + 1 - 9);
    c.row("35: east", x, 1, 16 * 8 + 1);
    OneGullToABoat y = Check.sea("3,3s0;3,3n0;3,3sw0", "a2;b2;c2");
    // not met a half hour ago, with the boat 1 nearer (3 at least): 4 away now, y 2 at least
    c.is("35: south", y.fits(0, 2), 3);
    c.row("35: south", y, 16 * 2 + 2, 16 * 4);
    // with the boat 1 farther then (3 at least): 2 to 4 away now
    c.is("35: north", y.fits(1, 2), 3 + 4 + 5);
    c.row("35: north", y, 2, 16 * 4);
    c.is("35: far", x.fits(0, 60), 0);
    c.is("35: none such", x.fits(4, 1), -1);
    c.is("35: -1", x.fits(-1, 1), -1);
    c.is("35: n 0", x.fits(0, 0), -1);
    c.is("35: n 61", x.fits(0, 61), -1);
    Check.rule(x, "0");
    x.weather(1, 1);
    c.is("35: the rule and all left aside", x.fits(0, 2), 45);
  }

  private static void ring() {
    OneGullToABoat x = Check.sea("4,3-0;0,0-1;2,5-2;15,15-3", "a1");
    c.is("36: 7", x.ring(7), 8);
    c.row("36: 7", x, 5);
    c.is("36: 0", x.ring(0), 1);
    c.row("36: 0", x, 2);
    c.is("36: 15", x.ring(15), 16);
    c.row("36: 15", x, 0);
    c.is("36: 16", x.ring(16), 15);
    c.is("36: 30", x.ring(30), 1);
    c.row("36: 30", x, 8);
    c.is("36: 31", x.ring(31), -1);
    c.is("36: -1", x.ring(-1), -1);
  }

  private static void questionsChangeNothing() {
    OneGullToABoat x = Check.sea("4,3e0;9,2n1", "a3;b2");
    x.write(0);
    x.send(0, 0);
    x.half();
    x.where(0, 9);
    x.comes(0);
    x.would(1);
    x.delivers(60);
    x.nearest(0, 1);
    x.shouted(1, 3, 9);
    x.spreads(1, 3);
    x.teller(3);
    x.order(3, 60);
    x.thief(60);
    x.fits(0, 3);
    x.season(7, 60, 3);
    c.boat(x, 0, 5, 3, 1, 0, 0, 0, 0);
    c.boat(x, 1, 9, 1, 0, -1, 1, 0, 0);
    c.gull(x, 0, 0, 0, 3, 1, 2, 0, 1, 0);
    c.gull(x, 1, 1, 1, 2, 0, 0, 0, 0, -1);
    c.letter(x, 0, 0, 1, 0);
    c.is("t2: now", x.count(3), 1);
    c.is("t2: wind", x.count(4), 0);
    c.is("t2: storm", x.count(5), 0);
    c.is("t2: undo", x.count(10), 3);
  }
}
