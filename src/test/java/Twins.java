import java.util.NoSuchElementException;

/** Two objects with the same past: what a call must leave alone is told by holding the one against the other. */
public final class Twins {
  public interface Call { long on(OneGullToABoat x); }

  private Twins() { }

  /**
   * Letters in the basket (3, 4), with gull 1 (1), on a deck (0) and lost (2); gulls 0 and 3 rest, 1 flies, 2 is dead;
   * one state kept under 0, none under 1; 11 calls to undo; a word, a rule, a ROW of two, a text of two signs.
   */
  public static OneGullToABoat make() {
    OneGullToABoat x = Check.sea("4,3e0;9,9-1;15,15-2", "a9;b2;c1;a4");
    Check.rule(x, "p");
    Check.codes(x, "70", 5);
    x.write(0);
    x.write(1);
    x.write(2);
    x.write(0);
    x.sheet(2, 3, -9, 9);
    x.send(0, 0);
    x.send(1, 1);
    x.send(2, 2);
    x.half();
    x.keep(0);
    x.chum(1, 1);
    x.weather(0, 3);
    x.write(2);
    x.paint(2, 4);
    x.sheet(2, 1, 2, 0);
    x.where(0, 1);
    Check.tell(x, "12");
    return x;
  }

  /** 6 boats, 8 gulls, 10 letters, 12 calls to undo, both states kept, and a text of 80 signs. */
  public static OneGullToABoat full() {
    OneGullToABoat x = Check.sea("1,1-0;2,2-1;3,3-2;4,4-3;5,5-4;15,15-5", "a1;b2;c3;d4;e5;f6;a7;b8");
    for (int i = 0; i < 10; i++) x.write(i % 6);
    x.send(0, 3);
    x.keep(0);
    x.halves(2);
    x.keep(1);
    x.ring(2);
    for (int i = 0; i < 20; i++) x.sign(0x31323334);
    return x;
  }

  private static String boats(OneGullToABoat x) {
    StringBuilder s = new StringBuilder();
    for (int b = 0, n = x.count(0); b < n; b++) {
      for (int what = 0; what < 7; what++) s.append(x.boat(b, what)).append(what < 6 ? ' ' : ';');
    }
    return s.toString();
  }

  private static String gulls(OneGullToABoat x) {
    StringBuilder s = new StringBuilder();
    for (int g = 0, n = x.count(1); g < n; g++) {
      for (int what = 0; what < 8; what++) s.append(x.gull(g, what)).append(what < 7 ? ' ' : ';');
    }
    return s.toString();
  }

  private static String letters(OneGullToABoat x) {
    StringBuilder s = new StringBuilder();
    for (int l = 0, n = x.count(2); l < n; l++) {
      for (int what = 0; what < 3; what++) s.append(x.letter(l, what)).append(what < 2 ? ' ' : ';');
    }
    return s.toString();
  }

  public static String row(OneGullToABoat x) {
    StringBuilder s = new StringBuilder();
    for (int i = 0, n = x.count(11); i < n; i++) s.append(x.row(i)).append(' ');
    return s.toString();
  }

  /** All that is told of an object now, but for the ROW and THE TEXT. */
  public static String now(OneGullToABoat x) {
    StringBuilder s = new StringBuilder();
    s.append("boats ").append(boats(x)).append(" gulls ").append(gulls(x)).append(" letters ").append(letters(x));
    for (int what = 2; what <= 10; what++) s.append(" count").append(what).append(' ').append(x.count(what));
    for (int j = 1; j <= 2; j++) {
      for (int i = 0; i < 3; i++) s.append(" slip ").append(x.slip(j, i));
    }
    return s.toString();
  }

  /** In few calls: an object answers 512. */
  private static String shortly(OneGullToABoat x) {
    StringBuilder s = new StringBuilder();
    for (int what : new int[] {2, 3, 6, 7, 8}) s.append(x.count(what)).append(' ');
    for (int b = 0; b < 3; b++) s.append(x.boat(b, 4)).append(x.boat(b, 5)).append(' ');
    for (int g = 0; g < 4; g++) s.append(x.gull(g, 3)).append(' ');
    return s.toString();
  }

  /** THE RULE, as far as the gulls that fly or rest tell it. */
  private static String flown(OneGullToABoat x) {
    StringBuilder s = new StringBuilder();
    for (int g = 0; g < 4; g++) {
      int far = x.heads(g);
      s.append(far).append(' ').append(far >= 0 ? row(x) : "").append(x.would(g)).append(' ');
    }
    return s.toString();
  }

  /** What is not seen from without: THE RULE, the text's signs, what can be undone, what is kept. Uses the object up. */
  public static String hidden(OneGullToABoat x, boolean withText) {
    StringBuilder s = new StringBuilder("rule ").append(flown(x));
    if (withText) s.append(" text ").append(x.count(12)).append(' ').append(x.codes(77));
    for (int j = 1; j <= 3; j++) s.append(" slip ").append(x.slip(j, 0)).append(' ').append(x.slip(j, 1));
    for (int i = 0; i < 13; i++) s.append("\n undo ").append(x.undo()).append(": ").append(shortly(x));
    for (int i = 1; i >= 0; i--) s.append("\n again ").append(x.again(i)).append(": ").append(shortly(x));
    return s.append(letters(x)).toString();
  }

  public static long thrown(Call call, OneGullToABoat x) {
    try {
      call.on(x);
    } catch (NoSuchElementException e) {
      return 1;
    }
    return 0;
  }
}
