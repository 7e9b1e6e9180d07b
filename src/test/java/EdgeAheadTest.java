/** The edges of promises 22 to 36: half hours to come, orders, thieves, where boats were. */
public final class EdgeAheadTest {
  private static final Check c = new Check();

  /** Shouted with SHOUT 0 from a: b is there in 30, brings it to c in 46; d, southwards from y, comes to c later. */
  private static final String LATE = "0,0-0;1,0e1;15,0-2;15,";

  public static void main(String[] args) {
    whereFromNowOn();
    whereSixty();
    comesSoonAndLate();
    comesNot();
    wouldSoonAndLate();
    wouldAllElseAsItIs();
    deliversWhen();
    deliversEmptyAndFull();
    dueEmptyAndFull();
    headsNearAndFar();
    headsAsAllIsNow();
    nearestFirstAndLast();
    shoutNearAndFar();
    shoutedAsOftenAsItHelps();
    shoutedBehindEach();
    shoutedWhen();
    spreadsLast();
    tellerFirstAndLast();
    orderWhen();
    orderEmptyAndFull();
    orderWhich();
    orderBySooner();
    orderLast();
    thiefWhen();
    thiefWhich();
    astrayEmptyAndFull();
    fitsNow();
    fitsWithinTheSea();
    fitsEachCourse();
    fitsLeftAside();
    ring();
    c.end("EdgeAheadTest");
  }

  private static int wave(int phase) {
    int m = Math.floorMod(phase, 32);
    return m < 16 ? m : 31 - m;
  }

  private static void whereFromNowOn() {
    // 0 is now, with the course it has now, though it is about to turn
    OneGullToABoat x = Check.sea("15,0ne0;0,15sw1;7,7-2;15,15se3;0,0nw4;3,4e5", "a1");
    int[] now = {15, 240, 119, 255, 0, 67};
    int[][] course = {{1, -1}, {-1, 1}, {0, 0}, {1, 1}, {-1, -1}, {1, 0}};
    for (int b = 0; b < 6; b++) {
      c.is("22: now, boat " + b, x.where(b, 0), now[b]);
      c.row("22: now, boat " + b, x, course[b]);
    }
    int[] then = {15, 240, 119, 255, 0, 68};
    for (int b = 0; b < 6; b++) {
      c.is("22: in 1, boat " + b, x.where(b, 1), then[b]);
      if (b < 5) c.row("22: in 1, boat " + b, x, -course[b][0], -course[b][1]);
      else c.row("22: in 1, boat 5", x, 1, 0);
    }
    c.is("22: boat 6", x.where(6, 0), -1);
    c.is("22: no boats", new OneGullToABoat().where(0, 0), -1);
    // a boat's course does not hang on others, nor on weather, nor on the half hour
    x.weather(1, 1);
    x.weather(0, 9);
    c.is("22: in a storm", x.where(5, 12), 64 + 15);
  }

  private static void whereSixty() {
    OneGullToABoat x = Check.sea("5,9e0;5,9w1;9,5s2;9,5n3", "a1");
    for (int n = 0; n <= 60; n++) {
      c.is("22: e in " + n, x.where(0, n), 16 * 9 + wave(5 + n));
      c.is("22: w in " + n, x.where(1, n), 16 * 9 + wave(26 + n));
      c.is("22: s in " + n, x.where(2, n), 16 * wave(5 + n) + 9);
      c.is("22: n in " + n, x.where(3, n), 16 * wave(26 + n) + 9);
    }
    // e, 60: 5 + 60 by 32 leaves 1, so it goes east at 1; w: 26 + 60 leaves 22, westwards at 9
    c.is("22: 60", x.where(0, 60), 16 * 9 + 1);
    c.row("22: 60", x, 1, 0);
    c.is("22: 60", x.where(1, 60), 16 * 9 + 9);
    c.row("22: 60", x, -1, 0);
    c.is("22: 61", x.where(0, 61), -1);
  }

  /** Met in half hour t: the rule tells 30 in that one, 0 ahead of it. In the tenth HUNGER is 9 already. */
  private static void comesSoonAndLate() {
    for (int t = 1; t <= 11; t++) {
      OneGullToABoat x = Check.sea("15,14-0;15,15-1", "a1;b2");
      Check.rule(x, "30*(s=" + (t - 1) + ")");
      x.send(1, -1);
      c.is("23: in " + t, x.comes(1), t <= 10 ? t : -2);
      if (t <= 10) c.row("23: in " + t, x, 1);
      else c.row("23: no row", x);
      c.is("24: in " + t, x.would(0), t <= 10 ? t : -2);
      if (t <= 10) c.row("24: in " + t, x, 0);
      if (t <= 10) c.is("23: so it is", x.halves(t), 1);
      if (t <= 10) c.row("23: so it is", x, 2, 0, 0);
    }
    // 30 cells in one half hour, and 29
    OneGullToABoat y = Check.sea("15,15-0", "a1");
    Check.rule(y, "30");
    y.send(0, -1);
    c.is("23: 30", y.comes(0), 1);
    Check.rule(y, "29");
    c.is("23: 29", y.comes(0), 2);
    // from the half hour that is now, not from 0
    OneGullToABoat z = Check.sea("15,15-0", "a1");
    Check.rule(z, "30*(s=50)");
    z.halves(48);
    c.is("24: now 48", z.would(0), 3);
    z.send(0, -1);
    c.is("23: now 48", z.comes(0), 3);
    z.half();
    c.is("23: now 49", z.comes(0), 2);
    z.half();
    c.is("23: now 50", z.comes(0), 1);
    c.is("23: so it is", z.half(), 1);
    c.is("23: it does not fly", z.comes(0), -1);
  }

  private static void comesNot() {
    // it RESTS first: ashore in the next, before a storm could matter
    OneGullToABoat x = Check.sea("9,0-0;1,0-1", "a3;a3;b3");
    Check.rule(x, "3");
    x.send(0, -1);
    x.half();
    x.paint(0, 5);
    c.is("23: rests first", x.comes(0), -2);
    c.row("23: rests first, the row stays", x, 0, 0, 0);
    c.is("24: rests first", x.would(1), -2);
    c.is("24: another comes", x.would(2), 1);
    c.row("24: another comes", x, 1);
    // it dies: HUNGER 9 and a cell short
    for (int h = 8; h <= 9; h++) {
      OneGullToABoat y = Check.sea("6,0-0", "a3");
      Check.rule(y, "3");
      y.sheet(2, 1, h, 0);
      c.is("24: hunger " + h, y.would(0), h == 8 ? 2 : -2);
      y.send(0, -1);
      c.is("23: hunger " + h, y.comes(0), h == 8 ? 2 : -2);
    }
    // a dead one and one that is not there do not FLY
    OneGullToABoat z = Check.sea("6,0-0", "a3;a3;a3;a3;a3;a3;a3;a3");
    Check.rule(z, "0");
    z.sheet(2, 8, 9, 0);
    z.send(7, -1);
    c.is("23: the last gull", z.comes(7), -2);
    z.half();
    c.is("23: dead", z.comes(7), -1);
    c.is("24: dead", z.would(7), -1);
    c.is("23: gull 8", z.comes(8), -1);
    c.is("24: gull 8", z.would(8), -1);
    OneGullToABoat none = new OneGullToABoat();
    c.is("23: no gulls", none.comes(0), -1);
    c.is("24: no gulls", none.would(0), -1);
    // called away on its way: HUNGER 6 in the seventh, chum 4 away then, 5 away not
    for (int far = 4; far <= 5; far++) {
      OneGullToABoat w = Check.sea("15,0-0;6," + far + "-1", "a1");
      Check.rule(w, "1");
      w.chum(1, 1);
      w.send(0, -1);
      c.is("23: chum " + far, w.comes(0), far == 4 ? 10 : -2);
      if (far == 4) c.row("23: chum " + far, w, 1);
    }
  }

  private static void wouldSoonAndLate() {
    // with HUNGER h already it lives for 10 - h half hours
    for (int h = 0; h <= 9; h++) {
      for (int t = 9 - h; t <= 11 - h; t++) {
        if (t < 1) continue;
        OneGullToABoat x = Check.sea("15,15-0", "a1");
        Check.rule(x, "30*(s=" + (t - 1) + ")");
        x.sheet(2, 1, h, 0);
        c.is("24: hunger " + h + ", in " + t, x.would(0), t <= 10 - h ? t : -2);
        c.is("24: hunger stays", x.gull(0, 3), h);
      }
    }
  }

  private static void wouldAllElseAsItIs() {
    // without a LETTER, its own HUNGER, the weather as it is, boats that sail
    OneGullToABoat x = Check.sea("6,0e0", "a1;a1");
    Check.rule(x, "4*l+w");
    x.write(0);
    x.weather(0, 3);
    // boat 7 8 9, gull 3 6 9
    c.is("24: wind 3", x.would(1), 3);
    x.weather(0, 6);
    // boat 7 8, gull 6 8
    c.is("24: wind 6", x.would(1), 2);
    x.send(0, 0);
    c.is("23: with a letter", x.comes(0), 1);
    c.is("24: another's letter is not its own", x.would(1), 2);
    // in a storm to the nearest deck
    OneGullToABoat y = Check.sea("9,9-0;1,1-1", "a1");
    Check.rule(y, "2");
    c.is("24: no storm", y.would(0), 9);
    c.row("24: no storm", y, 0);
    y.weather(1, 1);
    c.is("24: storm", y.would(0), 1);
    c.row("24: storm", y, 1);
    c.is("24: it RESTS still", y.gull(0, 6), 0);
  }

  /** Rule 1: letter 0 comes on its deck in 3, letter 1 on another's in 4, letter 2 is lost in 10. */
  private static void deliversWhen() {
    OneGullToABoat x = Check.sea("3,0-0;0,4-1;15,15-2", "a1;b1;c1");
    Check.rule(x, "1");
    x.write(0);
    x.write(0);
    x.write(2);
    x.write(1);
    for (int g = 0; g < 3; g++) x.send(g, g);
    for (int n = 0; n <= 60; n++) {
      c.is("25: in " + n, x.delivers(n), n < 3 ? 0 : 1);
      c.row("25: in " + n, x, n < 4 ? 0 : 2, n < 10 ? 0 : 4);
    }
    c.is("25: 61", x.delivers(61), -1);
    c.is("25: -1", x.delivers(-1), -1);
    // one that comes into the basket again is none of these
    x.paint(0, 5);
    c.is("25: ashore", x.delivers(60), 0);
    c.row("25: ashore", x, 2, 4);
  }

  private static void deliversEmptyAndFull() {
    OneGullToABoat none = new OneGullToABoat();
    for (int n : new int[] {0, 1, 60}) {
      c.is("25: no boats", none.delivers(n), 0);
      c.row("25: no boats", none, 0, 0);
    }
    // ten letters: brought two by two, as gull 0 and 1 are sent again
    OneGullToABoat x = Check.sea("0,0-0;0,1-1", "a9;b9");
    for (int i = 0; i < 10; i++) x.write(0);
    for (int i = 0; i < 10; i += 2) {
      x.send(0, i);
      x.send(1, i + 1);
      x.half();
    }
    c.is("25: ten on decks", x.delivers(0), 341);
    c.row("25: ten on decks", x, 682, 0);
    c.is("25: in 60", x.delivers(60), 341);
    c.row("25: in 60", x, 682, 0);
    c.is("7: deck of a", x.boat(0, 6), 341);
    c.is("7: deck of b", x.boat(1, 6), 682);
    c.is("26: due", x.due(0), 682);
    c.row("26: on another deck all", x, 0, 0, 682, 0);
  }

  private static void dueEmptyAndFull() {
    c.is("26: no boats", new OneGullToABoat().due(0), -1);
    OneGullToABoat x = Check.sea("1,1-0;1,1-0;1,1-0;1,1-0;1,1-0;9,9-0", "f1;f2;f3");
    for (int b = 0; b < 6; b++) {
      c.is("26: none written", x.due(b), 0);
      c.row("26: none written", x, 0, 0, 0, 0);
    }
    for (int i = 0; i < 10; i++) x.write(5);
    c.is("26: all in the basket", x.due(5), 1023);
    c.row("26: all in the basket", x, 1023, 0, 0, 0);
    c.is("26: none for another", x.due(4), 0);
    c.row("26: none for another", x, 0, 0, 0, 0);
    x.send(0, 9);
    x.send(1, 0);
    c.is("26: with gulls", x.due(5), 1023);
    c.row("26: with gulls", x, 510, 513, 0, 0);
    // gull 0 dies with letter 9; in the storm gull 1 brings letter 0 to the nearest deck
    x.sheet(2, 2, 9, 0);
    Check.rule(x, "2*(g=1)");
    x.weather(1, 1);
    x.half();
    c.is("26: lost, and on another deck", x.due(5), 1023);
    c.row("26: lost, and on another deck", x, 510, 0, 1, 512);
    // and on its own deck it is due no longer
    x.weather(1, 0);
    Check.rule(x, "30");
    x.send(2, 1);
    x.half();
    c.is("26: on its deck", x.due(5), 1021);
    c.row("26: on its deck", x, 508, 0, 1, 512);
    c.is("26: boat 6", x.due(6), -1);
  }

  private static void headsNearAndFar() {
    // how many CELLS it would fly: not farther than where it goes
    for (int k = 0; k <= 31; k++) {
      OneGullToABoat x = Check.sea("15,15-0;2,1-1;0,0-2", "a1;b1;c1");
      Check.rule(x, "" + k);
      for (int g = 0; g < 3; g++) x.send(g, -1);
      int[] far = {30, 3, 0};
      for (int g = 0; g < 3; g++) {
        c.is("27: far", x.heads(g), far[g]);
        c.row("27: rule " + k, x, g, Math.min(Math.min(k, 30), far[g]));
      }
    }
    OneGullToABoat y = Check.sea("9,9-0", "a1;a1;a1;a1;a1;a1;a1;a1");
    Check.rule(y, "g");
    for (int g = 0; g < 8; g++) y.send(g, -1);
    for (int g = 0; g < 8; g++) {
      c.is("27: gull " + g, y.heads(g), 18);
      c.row("27: gull " + g, y, 0, g);
    }
    c.is("27: gull 8", y.heads(8), -1);
    c.is("27: no gulls", new OneGullToABoat().heads(0), -1);
  }

  private static void headsAsAllIsNow() {
    // ahead of a half hour: NOW and where the boat is now, d as it is from there
    OneGullToABoat x = Check.sea("5,0e0", "a1");
    Check.rule(x, "s");
    x.halves(3);
    x.send(0, -1);
    c.is("27: 8,0", x.heads(0), 8);
    c.row("27: half hour 3", x, 0, 3);
    x.half();
    c.is("27: 9,0 from 3,0", x.heads(0), 6);
    c.row("27: half hour 4", x, 0, 4);
    Check.rule(x, "d-1");
    x.heads(0);
    c.row("27: d", x, 0, 5);
    // d is that from the shore, if it goes there
    x.paint(0, 1);
    c.is("27: ashore", x.heads(0), 3);
    c.row("27: ashore, d", x, -1, 2);
    Check.rule(x, "99");
    x.heads(0);
    c.row("27: ashore, not farther", x, -1, 3);
  }

  private static void nearestFirstAndLast() {
    // boats come back in 32 half hours, so 31 is the last in which they can be nearer than ever
    OneGullToABoat x = Check.sea("0,15-0;1,15ne1;0,15-2", "a1");
    c.is("28: the last", x.nearest(0, 1), 31);
    c.row("28: the last", x, 0);
    c.is("28: the other way round", x.nearest(1, 0), 31);
    c.is("28: now", x.nearest(0, 2), 0);
    c.row("28: now", x, 0);
    x.half();
    c.is("28: a half hour later", x.nearest(0, 1), 30);
    x.halves(30);
    c.is("28: then it is now", x.nearest(0, 1), 0);
    // of equal ones the first: now, though they are as near in each
    OneGullToABoat y = Check.sea("3,3e0;3,5e1;0,0-2;15,15-3;9,0w4;0,4-5", "a1");
    c.is("28: equal ones", y.nearest(0, 1), 0);
    c.row("28: equal ones", y, 2);
    c.is("28: as far as can be", y.nearest(2, 3), 0);
    c.row("28: as far as can be", y, 30);
    c.is("28: the last boat", y.nearest(4, 5), 9);
    c.row("28: the last boat", y, 4);
    c.is("28: boat 6", y.nearest(0, 6), -1);
    c.is("28: boat 6", y.nearest(6, 0), -1);
    c.is("28: no boats", new OneGullToABoat().nearest(0, 1), -1);
    c.is("28: one boat", Check.sea("1,1-0", "a1").nearest(0, 1), -1);
    // two that pass one another are nearest ahead of it or behind it alike: 1 apart in 2 and 3
    OneGullToABoat z = Check.sea("0,0e0;5,0w1", "a1");
    c.is("28: passing", z.nearest(0, 1), 2);
    c.row("28: passing", z, 1);
  }

  /** SHOUT or nearer, 0 .. 15: each as far as it is, and a cell farther. */
  private static void shoutNearAndFar() {
    for (int far = 0; far <= 16; far++) {
      int x = far / 2;
      OneGullToABoat sea = Check.sea("0,0-0;" + x + "," + (far - x) + "-1", "a1");
      for (int shout = 0; shout <= 15; shout++) {
        boolean heard = far <= shout;
        c.is("29: " + far + " by " + shout, sea.shouted(1, shout, 0), heard ? 3 : 1);
        c.row("29: " + far + " by " + shout, sea, 0, heard ? 0 : -1);
        c.is("29: the other way", sea.shouted(2, shout, 60), heard ? 3 : 2);
        c.is("30: " + far + " by " + shout, sea.spreads(1, shout), heard ? 0 : -2);
        c.is("31: " + far + " by " + shout, sea.teller(shout), heard ? 0 : -2);
      }
    }
  }

  private static void shoutedAsOftenAsItHelps() {
    // a row of six, 3 from one to the next, told from either end; and one in which the numbers go to and fro
    String[] fleets = {"0,0-0;3,0-0;6,0-0;9,0-0;12,0-0;15,0-0", "15,0-0;12,0-0;9,0-0;6,0-0;3,0-0;0,0-0",
        "0,0-0;9,0-0;3,0-0;12,0-0;6,0-0;15,0-0", "9,0-0;3,0-0;15,0-0;0,0-0;12,0-0;6,0-0"};
    for (String fleet : fleets) {
      OneGullToABoat x = Check.sea(fleet, "a1");
      for (int b = 0; b < 6; b++) {
        c.is("29: all at once", x.shouted(1 << b, 3, 0), 63);
        c.row("29: all at once", x, 0, 0, 0, 0, 0, 0);
        c.is("30: all at once", x.spreads(1 << b, 3), 0);
        c.is("29: SHOUT 2", x.shouted(1 << b, 2, 60), 1 << b);
        c.is("30: SHOUT 2", x.spreads(1 << b, 2), -2);
      }
      c.is("31: the first", x.teller(3), 0);
      c.row("31: the first", x, 0);
      c.is("31: by none", x.teller(2), -2);
      c.row("31: by none, the row stays", x, 0);
      c.is("29: all told", x.shouted(63, 0, 0), 63);
      c.is("29: five told", x.shouted(31, 0, 60), 31);
      c.row("29: five told", x, 0, 0, 0, 0, 0, -1);
      c.is("29: none such", x.shouted(64, 0, 0), -1);
      c.is("30: all told", x.spreads(63, 0), 0);
      c.is("30: none such", x.spreads(64, 15), -1);
    }
  }

  /** Behind each half hour, when the boats have gone: near in one alone is enough, and between two does not count. */
  private static void shoutedBehindEach() {
    // 1 apart in half hours 2 and 3, on one cell never
    OneGullToABoat x = Check.sea("0,0e0;5,0w1", "a1");
    c.is("29: SHOUT 0, passing", x.shouted(1, 0, 4), 1);
    c.is("29: SHOUT 1, ahead of it", x.shouted(1, 1, 1), 1);
    c.is("29: SHOUT 1, then", x.shouted(1, 1, 2), 3);
    c.row("29: SHOUT 1, then", x, 0, 2);
    // a is at 0 .. 15 in 0 .. 15 and in 31 .. 16, b at 0 in 5 and 6: the first of both is when they meet again
    OneGullToABoat y = Check.sea("0,0e0;6,0w1", "a1");
    c.is("29: SHOUT 0, met", y.shouted(1, 0, 3), 3);
    c.row("29: SHOUT 0, met", y, 0, 3);
    c.is("29: one less", y.shouted(1, 0, 2), 1);
  }

  private static void shoutedWhen() {
    int[] when = {0, 30, 46, 60};
    for (int n = 0; n <= 60; n++) {
      OneGullToABoat x = Check.sea(LATE + "3s3", "a1");
      int know = 0;
      int[] row = new int[4];
      for (int b = 0; b < 4; b++) {
        row[b] = when[b] <= n ? when[b] : -1;
        if (when[b] <= n) know |= 1 << b;
      }
      c.is("29: in " + n, x.shouted(1, 0, n), know);
      c.row("29: in " + n, x, row);
    }
    OneGullToABoat x = Check.sea(LATE + "3s3", "a1");
    c.is("29: 61", x.shouted(1, 0, 61), -1);
    c.is("29: no boats", new OneGullToABoat().shouted(0, 0, 0), 0);
    c.is("29: no boats, one told", new OneGullToABoat().shouted(1, 0, 0), -1);
    c.is("29: nobody told", x.shouted(0, 15, 60), 0);
    c.row("29: nobody told", x, -1, -1, -1, -1);
  }

  private static void spreadsLast() {
    c.is("30: in 60", Check.sea(LATE + "3s3", "a1").spreads(1, 0), 60);
    c.is("30: it would be 61", Check.sea(LATE + "2s3", "a1").spreads(1, 0), -2);
    c.is("30: in 59", Check.sea(LATE + "4s3", "a1").spreads(1, 0), 59);
    OneGullToABoat x = Check.sea(LATE + "2s3", "a1");
    x.half();
    c.is("30: a half hour later 60", x.spreads(1, 0), 60);
    c.is("30: one boat", Check.sea("1,1-0", "a1").spreads(1, 0), 0);
    c.is("30: one boat, nobody told", Check.sea("1,1-0", "a1").spreads(0, 0), -1);
    c.is("30: no boats", new OneGullToABoat().spreads(0, 0), -1);
    c.is("30: no boats, one told", new OneGullToABoat().spreads(1, 0), -1);
  }

  private static void tellerFirstAndLast() {
    c.is("31: no boats", new OneGullToABoat().teller(0), -2);
    c.is("31: no boats, SHOUT 15", new OneGullToABoat().teller(15), -2);
    OneGullToABoat one = Check.sea("1,1-0", "a1");
    c.is("31: one boat", one.teller(0), 0);
    c.row("31: one boat", one, 0);
    // told alone: a 60; b tells c in 14, d hears it in 28, a in 30; c tells b in 14 and so on; d tells c in 28, b in 46
    OneGullToABoat x = Check.sea(LATE + "3s3", "a1");
    c.is("31: b", x.teller(0), 1);
    c.row("31: b", x, 30);
    // f goes about; e, which it meets first, is as good as it, and so the first
    OneGullToABoat y = Check.sea("0,0-0;3,0-1;6,0-2;9,0-3;12,0-4;15,0w5", "a1");
    c.is("31: e", y.teller(0), 4);
    c.row("31: e", y, 15);
    c.is("31: by f too", y.spreads(32, 0), 15);
    c.is("31: by d not", y.spreads(8, 0) > 15, true);
    // fleets found by a search of its own: the soonest is 60 in one, 61 in the other
    OneGullToABoat z = Check.sea("7,5n0;3,1ne1;2,10s2;0,15s3;4,7ne4;1,3s5", "a1");
    c.is("31: in 60", z.teller(1) >= 0, true);
    c.row("31: in 60", z, 60);
    OneGullToABoat w = Check.sea("4,8e0;1,14nw1;13,4w2;1,6n3;8,1sw4;6,0n5", "a1");
    c.is("31: it would be 61", w.teller(1), -2);
    w.half();
    c.is("31: a half hour later 60", w.teller(1) >= 0, true);
    c.row("31: a half hour later 60", w, 60);
    c.is("31: SHOUT 16", y.teller(16), -1);
    c.is("31: SHOUT -1", y.teller(-1), -1);
  }

  /** Gull 0 comes in 3 to a, gull 1 in 5 to b: all know in 5. */
  private static void orderWhen() {
    OneGullToABoat x = Check.sea("3,0-0;0,5-1", "a1;b1");
    Check.rule(x, "1");
    for (int n = 1; n <= 60; n++) {
      c.is("32: in " + n, x.order(0, n), n < 5 ? -2 : 2);
      if (n >= 5) c.row("32: in " + n, x, 3, 5);
    }
    c.is("32: 0", x.order(0, 0), -1);
    c.is("32: 61", x.order(0, 61), -1);
    // they are 8 apart: with SHOUT 8 one is enough, the first though it is not the sooner one; by 4 gull 0 alone
    for (int n = 2; n <= 6; n++) {
      c.is("32: SHOUT 8, in " + n, x.order(8, n), n < 3 ? -2 : 1);
      if (n >= 3) c.row("32: SHOUT 8, in " + n, x, 1, 3);
      c.is("32: SHOUT 7, in " + n, x.order(7, n), n < 5 ? -2 : 2);
    }
    // in 1 at the soonest
    OneGullToABoat y = Check.sea("0,0-0", "a1");
    c.is("32: in 1", y.order(0, 1), 1);
    c.row("32: in 1", y, 1, 1);
    // with the letter of the order it has no LETTER
    Check.rule(y, "30*l");
    OneGullToABoat z = Check.sea("1,0-0", "a1");
    Check.rule(z, "30*(l=0)");
    c.is("32: no LETTER", z.order(0, 1), 1);
  }

  private static void orderEmptyAndFull() {
    OneGullToABoat none = new OneGullToABoat();
    for (int shout : new int[] {0, 15}) {
      for (int n : new int[] {1, 60}) {
        c.is("32: no boats", none.order(shout, n), 0);
        c.row("32: no boats", none, 0, 0);
      }
    }
    OneGullToABoat x = new OneGullToABoat();
    Check.fleet(x, "1,1-0");
    c.is("32: no gulls", x.order(15, 60), -2);
    c.row("32: no gulls", x);
    // six boats, each with a gull of its own, and two more that are quicker
    OneGullToABoat y = Check.sea("1,0-0;2,0-1;3,0-2;4,0-3;5,0-4;6,0-5", "a1;b1;c1;d1;e1;f1;e9;f9");
    Check.rule(y, "p");
    c.is("32: six", y.order(0, 60), 6);
    c.row("32: six, the least", y, 63, 6);
    c.is("32: six, in 5", y.order(0, 5), 6);
    c.row("32: six, in 5", y, 31 + 128, 5);
    c.is("32: six, in 4", y.order(0, 4), 6);
    c.row("32: six, in 4", y, 15 + 192, 4);
    c.is("32: six, in 3", y.order(0, 3), -2);
    // SHOUT 1: one for all; the least set that can
    c.is("32: one, in 3", y.order(1, 3), 1);
    c.row("32: one, in 3", y, 1, 1);
    // one that flies already does not count, nor one that is dead
    y.send(4, -1);
    y.send(6, -1);
    c.is("32: none for e RESTS", y.order(0, 60), -2);
    c.is("32: none for e RESTS, SHOUT 1", y.order(1, 60), 1);
    y.undo();
    c.is("32: the quicker one", y.order(0, 60), 6);
    c.row("32: the quicker one", y, 111, 6);
  }

  private static void orderWhich() {
    // one that dies, one that RESTS ashore first, one that comes to another's deck
    OneGullToABoat x = Check.sea("9,0-0;0,3-1", "a1;b1;b2");
    Check.rule(x, "1");
    x.sheet(2, 2, 2, -2);
    c.is("32: gull 0 dies", x.order(12, 60), 1);
    c.row("32: gull 0 dies", x, 2, 3);
    x.paint(1, 5);
    c.is("32: the others find none", x.order(12, 60), -2);
    x.show(2);
    c.is("32: gull 2 was shown it", x.order(12, 60), 1);
    c.row("32: gull 2 was shown it", x, 4, 3);
    // chum of another calls it away, and it tells that one
    OneGullToABoat y = Check.sea("9,0-0;0,3-1", "a1;a1");
    Check.rule(y, "3");
    y.sheet(2, 1, 6, 0);
    c.is("32: both to a", y.order(0, 60), -2);
    y.chum(1, 1);
    c.is("32: one to b", y.order(0, 60), 2);
    c.row("32: one to b", y, 3, 3);
  }

  /**
   * Gull 0 comes to a in 1, gull 1 to c in 5; b is at a in 3, at c in 10: it knows by the sooner one. By gull 0 alone
   * all know in 10.
   */
  private static void orderBySooner() {
    OneGullToABoat x = Check.sea("3,0-0;0,0e1;10,0-2", "a3;c2");
    Check.rule(x, "p");
    for (int n = 1; n <= 12; n++) {
      c.is("32: by the sooner one, in " + n, x.order(0, n), n < 5 ? -2 : n < 10 ? 2 : 1);
      if (n >= 5 && n < 10) c.row("32: by the sooner one, in " + n, x, 3, 5);
      if (n >= 10) c.row("32: by one, in " + n, x, 1, 10);
    }
  }

  /** Told in 1 where LATE is told now: all is as in LATE. */
  private static void orderLast() {
    for (int from = 2; from <= 4; from++) {
      OneGullToABoat x = Check.sea(LATE + from + "s3", "a9");
      int when = 63 - from;
      c.is("32: all in " + when, x.order(0, 60), when <= 60 ? 1 : -2);
      if (when <= 60) c.row("32: all in " + when, x, 1, when);
      c.is("32: too late", x.order(0, 58), -2);
    }
    OneGullToABoat y = Check.sea(LATE + "4s3", "a9");
    c.is("32: in 59", y.order(0, 59), 1);
    c.row("32: in 59", y, 1, 59);
  }

  /** Rule 1, HUNGER 6: letter 0 for b comes to a in 2, if a has chum; to c in 3, if c has. */
  private static void thiefWhen() {
    for (int n = 1; n <= 60; n++) {
      OneGullToABoat x = Check.sea("1,1-0;15,15-1;0,3-2", "b1");
      Check.rule(x, "1");
      x.write(1);
      x.sheet(2, 1, 6, 0);
      x.send(0, 0);
      c.is("33: in " + n, x.thief(n), 0);
      c.row("33: in " + n, x, n < 2 ? 0 : 1, 0);
      x.paint(0, 5);
      x.chum(2, 1);
      c.is("33: chum as it is, in " + n, x.thief(n), 0);
      c.row("33: chum as it is, in " + n, x, n < 2 ? 0 : 1, n < 3 ? 0 : 1);
    }
    c.is("33: no boats", new OneGullToABoat().thief(1), -2);
    c.is("33: no boats", new OneGullToABoat().thief(60), -2);
    OneGullToABoat none = Check.sea("1,1-0;2,2-0", "a1");
    c.is("33: no letters", none.thief(60), 0);
    c.row("33: no letters", none, 0, 0);
    OneGullToABoat boats = new OneGullToABoat();
    Check.fleet(boats, "1,1-0;2,2-0");
    c.is("33: no gulls", boats.thief(60), 0);
    c.row("33: no gulls", boats, 0, 0);
  }

  private static void thiefWhich() {
    // 4 away and 5 away; c is the one that gets two, a one
    OneGullToABoat x = Check.sea("0,5-0;15,15-1;4,0-2;2,2-3", "b1;b1;b1;b1;b1;b1;b1;b1");
    Check.rule(x, "1+3*(g<2)");
    for (int i = 0; i < 8; i++) x.write(1);
    x.sheet(2, 8, 6, 0);
    for (int g = 0; g < 8; g++) x.send(g, g);
    c.is("33: in 1", x.thief(1), 2);
    c.row("33: in 1", x, 2, 0);
    c.is("33: in 4", x.thief(4), 2);
    c.row("33: in 4", x, 8, 0);
    // that letters for it come on its deck is no theft, and on others it is not its own
    OneGullToABoat y = Check.sea("3,0-0;0,3-1", "a1;b1");
    Check.rule(y, "3");
    y.write(1);
    y.write(0);
    y.send(0, 0);
    y.send(1, 1);
    c.is("33: brought astray, nobody with chum", y.thief(1), 0);
    c.row("33: brought astray", y, 1, 2);
    // one gull, the last of ten letters; the first lies on that deck already
    OneGullToABoat w = Check.sea("0,3-0;15,15-1", "b1");
    Check.rule(w, "3");
    for (int i = 0; i < 10; i++) w.write(1);
    for (int i = 0; i <= 9; i += 9) {
      w.chum(0, 1);
      w.sheet(2, 1, 6, 0);
      w.send(0, i);
      w.chum(0, 0);
      c.is("33: letter " + i, w.thief(1), 0);
      c.row("33: letter " + i, w, 1, 0);
      w.chum(0, 1);
      c.is("33: letter " + i + ", chum as it is now", w.thief(1), 0);
      c.row("33: letter " + i + ", chum as it is now", w, 1, 1);
      w.half();
    }
    c.is("33: both on the deck", w.boat(0, 6), 513);
    // ten letters that lie on decks already are not stolen anew
    OneGullToABoat z = Check.sea("0,0-0;9,9-1", "a9");
    for (int i = 0; i < 10; i++) z.write(1);
    for (int i = 0; i < 10; i++) { z.send(0, i); z.half(); }
    c.is("33: there already", z.thief(60), 0);
    c.row("33: there already", z, 0, 0);
    c.is("33: ten on the deck", z.boat(0, 6), 1023);
  }

  private static void astrayEmptyAndFull() {
    OneGullToABoat none = new OneGullToABoat();
    c.is("34: no gulls", none.astray(), 0);
    c.row("34: no gulls", none, 0);
    // one of two that flies, and a hull that is not the number of the boat
    for (int g = 0; g < 2; g++) {
      OneGullToABoat y = Check.sea("9,0-1;1,1-0", "a1;a2");
      y.send(g, -1);
      c.is("34: to its own", y.astray(), 0);
      c.row("34: to its own", y, 0);
      y.weather(1, 1);
      c.is("34: gull " + g, y.astray(), 1 << g);
      y.weather(1, 0);
      y.paint(0, 5);
      c.is("34: ashore, gull " + g, y.astray(), 0);
      c.row("34: ashore, gull " + g, y, 1 << g);
    }
    OneGullToABoat x = Check.sea("9,0-0;0,9-1;1,1-2", "a1;a2;a3;a4;b1;b2;b3;b4");
    for (int g = 0; g < 8; g++) x.send(g, -1);
    c.is("34: to their own", x.astray(), 0);
    c.row("34: to their own", x, 0);
    x.paint(0, 5);
    c.is("34: four ashore", x.astray(), 0);
    c.row("34: four ashore", x, 15);
    x.paint(1, 5);
    c.is("34: all ashore", x.astray(), 0);
    c.row("34: all ashore", x, 255);
    x.weather(1, 1);
    c.is("34: all to c", x.astray(), 255);
    c.row("34: all to c", x, 0);
    x.weather(1, 0);
    x.chum(2, 1);
    x.sheet(2, 8, 2, 1);
    c.is("34: the hungry ones to c", x.astray(), 240);
    c.row("34: the others ashore", x, 15);
    // dead ones do not fly
    x.chum(2, 0);
    x.paint(0, 0);
    x.paint(1, 1);
    x.sheet(2, 8, 9, 0);
    Check.rule(x, "0");
    x.half();
    x.weather(1, 1);
    c.is("34: all dead", x.astray(), 0);
    c.row("34: all dead", x, 0);
    c.is("45: all dead", x.count(7), 255);
  }

  /** A boat that does not sail: farther than n - 1 times PACE (or 0, in the first), n times at most. */
  private static void fitsNow() {
    for (int pace = 1; pace <= 9; pace++) {
      OneGullToABoat x = Check.sea("7,7-0", "a" + pace);
      for (int n = 1; n <= 60; n++) {
        int cells = 0;
        int least = -1;
        int greatest = -1;
        for (int cell = 0; cell < 256; cell++) {
          int far = cell / 16 + cell % 16;
          if (far > n * pace || n > 1 && far <= (n - 1) * pace) continue;
          cells++;
          if (least < 0) least = cell;
          greatest = cell;
        }
        c.is("35: pace " + pace + ", " + n, x.fits(0, n), cells);
        c.row("35: pace " + pace + ", " + n, x, least, greatest);
      }
    }
    OneGullToABoat y = Check.sea("7,7-0", "a1");
    c.is("35: 1: 0 and 1 away", y.fits(0, 1), 3);
    c.row("35: 1: 0 and 1 away", y, 0, 16);
    c.is("35: 30: the far corner", y.fits(0, 30), 1);
    c.row("35: 30: the far corner", y, 255, 255);
    c.is("35: 31: none", y.fits(0, 31), 0);
    c.row("35: 31: none", y, -1, -1);
    c.is("35: 60: none", y.fits(0, 60), 0);
    c.row("35: 60: none", y, -1, -1);
    c.is("35: 61", y.fits(0, 61), -1);
    c.is("35: 0", y.fits(0, 0), -1);
    c.is("35: no gulls", new OneGullToABoat().fits(0, 1), -1);
  }

  private static void fitsWithinTheSea() {
    // eastwards at PACE 1 the boat is caught in the first half hour or never: at 1,0 now, from 0,0
    OneGullToABoat x = Check.sea("7,7e0;7,7s1;7,7w2", "a1;b1;c1;c9");
    c.is("35: e, 1", x.fits(0, 1), 1);
    c.row("35: e, 1", x, 1, 1);
    c.is("35: s, 1", x.fits(1, 1), 1);
    c.row("35: s, 1", x, 16, 16);
    for (int n = 2; n <= 60; n++) c.is("35: e, " + n, x.fits(0, n), 0);
    // eastwards by a column: 0,1 to 1,1 is 2 away, then always 2 away, never met
    c.row("35: e, 60", x, -1, -1);
    // westwards: from x 15 at the most, so 14 now, in 1; by 1: 0,0 1,0 0,1
    c.is("35: w, 1", x.fits(2, 1), 3);
    c.row("35: w, 1", x, 0, 16);
    // PACE 9: all within 9 of which the boat can have come from a cell more to the east
    c.is("35: w, PACE 9, 1", x.fits(3, 1), 55);
    c.row("35: w, PACE 9, 1", x, 0, 144);
    // PACE 2, from x 15: in its column in 5, then 1 by y in each; in 14 x 14 at first can be too, in 16 none can
    OneGullToABoat w = Check.sea("7,7w0;7,7nw1", "a2;b1;b9");
    c.is("35: w, 14", w.fits(0, 14), 2);
    c.row("35: w, 14", w, 16 * 9 + 1, 16 * 10);
    c.is("35: w, 15", w.fits(0, 15), 1);
    c.row("35: w, 15", w, 16 * 10, 16 * 10);
    c.is("35: w, 16", w.fits(0, 16), 0);
    c.row("35: w, 16", w, -1, -1);
    // PACE 1, from 14,14 to 0,0, and from 15,15 to 1,1
    c.is("35: nw, 14", w.fits(1, 14), 2);
    c.row("35: nw, 14", w, 0, 17);
    c.is("35: nw, 15", w.fits(1, 15), 0);
    c.is("35: nw, PACE 9, 2", w.fits(2, 2), nwInTwo());
    c.row("35: nw, PACE 9, 2", w, 8, 16 * 13 + 3);
  }

  /**
   * Cells 0 .. 13 each way, (1, 1 less) not within 9 a half hour ago. The gull is at 9,0 then, or in the column that
   * the boat leaves, 9 from ASHORE; 9 cells on is the boat.
   */
  private static int nwInTwo() {
    int cells = 0;
    for (int y = 0; y <= 13; y++) {
      for (int x = 0; x <= 13; x++) {
        int gullX = Math.min(9, x + 1);
        int far = Math.abs(gullX - x) + Math.abs(9 - gullX - y);
        if (x + y + 2 > 9 && far <= 9) cells++;
      }
    }
    return cells;
  }

  /** From each cell at first: a boat that would be beyond a side now is on none of the cells. */
  private static void fitsEachCourse() {
    String[] courses = {"n", "e", "s", "w", "ne", "nw", "se", "sw"};
    for (String course : courses) {
      int dx = course.endsWith("e") ? 1 : course.endsWith("w") ? -1 : 0;
      int dy = course.startsWith("n") ? -1 : course.startsWith("s") ? 1 : 0;
      for (int pace = 1; pace <= 9; pace++) {
        OneGullToABoat x = Check.sea("7,7" + course + "0", "a" + pace);
        for (int n = 1; n <= 18; n++) {
          boolean[] can = new boolean[256];
          for (int from = 0; from < 256; from++) {
            int toX = from % 16 + n * dx;
            int toY = from / 16 + n * dy;
            boolean atSea = toX >= 0 && toX <= 15 && toY >= 0 && toY <= 15;
            if (atSea && metIn(from % 16, from / 16, dx, dy, pace) == n) can[16 * toY + toX] = true;
          }
          cells("35: " + course + ", pace " + pace + ", " + n, x, n, can);
        }
      }
    }
    // southwards PACE 8 meets in 2 what was at 0,14 and would be at 0,16 now: beyond THE SEA
    OneGullToABoat y = Check.sea("7,7s0", "a8");
    y.fits(0, 2);
    c.is("35: beyond the sea", y.row(1) <= 255, true);
  }

  private static void cells(String name, OneGullToABoat x, int n, boolean[] can) {
    int cells = 0;
    int least = -1;
    int greatest = -1;
    for (int i = 0; i < 256; i++) {
      if (!can[i]) continue;
      cells++;
      if (least < 0) least = i;
      greatest = i;
    }
    c.is(name, x.fits(0, n), cells);
    c.row(name, x, least, greatest);
  }

  /** In which half hour a boat from x, y is met, cell by cell; 99: not in 20. */
  private static int metIn(int x, int y, int dx, int dy, int pace) {
    int gullX = 0;
    int gullY = 0;
    for (int t = 1; t <= 20; t++) {
      for (int i = 0; i < pace; i++) {
        if (gullX != x + t * dx) gullX += Integer.signum(x + t * dx - gullX);
        else gullY += Integer.signum(y + t * dy - gullY);
      }
      if (gullX == x + t * dx && gullY == y + t * dy) return t;
    }
    return 99;
  }

  /** THE RULE and all but that BOAT left aside; the COURSE as it is now. */
  private static void fitsLeftAside() {
    OneGullToABoat x = Check.sea("7,7-0;1,1-1", "a3");
    int cells = x.fits(0, 3);
    c.is("35: 7 .. 9 away", cells, 8 + 9 + 10);
    Check.rule(x, "0");
    x.weather(1, 1);
    x.chum(1, 1);
    x.sheet(2, 1, 9, 0);
    x.paint(0, 5);
    c.is("35: the rule, storm, chum, hunger, hull", x.fits(0, 3), 27);
    x.send(0, -1);
    c.is("35: it flies", x.fits(0, 3), 27);
    x.half();
    c.is("35: it is dead", x.gull(0, 6), 2);
    c.is("35: dead", x.fits(0, 3), 27);
    c.row("35: dead", x, 7, 16 * 9);
    // turned round: the course as it is now
    OneGullToABoat y = Check.sea("15,7e0", "a1");
    c.is("35: e", y.fits(0, 1), 1);
    y.half();
    c.is("35: w now", y.fits(0, 1), 3);
  }

  private static void ring() {
    OneGullToABoat x = Check.sea("0,0-0;15,15-1;0,15-2;15,0-3;1,15-4;15,0-5", "a1");
    int all = 0;
    for (int d = 0; d <= 30; d++) {
      int cells = d <= 15 ? d + 1 : 31 - d;
      all += cells;
      c.is("36: " + d, x.ring(d), cells);
      c.row("36: " + d, x, d == 0 ? 1 : d == 15 ? 44 : d == 16 ? 16 : d == 30 ? 2 : 0);
    }
    c.is("36: all cells", all, 256);
    c.is("36: 31", x.ring(31), -1);
    c.is("36: -1", x.ring(-1), -1);
    OneGullToABoat none = new OneGullToABoat();
    for (int d : new int[] {0, 15, 30}) {
      c.is("36: no boats", none.ring(d), d == 15 ? 16 : 1);
      c.row("36: no boats", none, 0);
    }
    OneGullToABoat six = Check.sea("2,0-0;1,1-0;0,2-0;2,0-0;1,1-0;0,2-0", "a1");
    c.is("36: six on it", six.ring(2), 3);
    c.row("36: six on it", six, 63);
  }
}
