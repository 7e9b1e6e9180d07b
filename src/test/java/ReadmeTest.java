import java.io.IOException;
import java.nio.file.Files;
import java.nio.file.Path;

/** The day that README.md tells, with the answers that it tells, and its calls as they stand there. */
public final class ReadmeTest {
  private static final Check c = new Check();
  private static final OneGullToABoat sea = new OneGullToABoat();
  private static String readme;
  private static int from;

  /** The call and its answer must stand in README.md too, behind those that went ahead. */
  private static void told(String call, int got, int want) {
    c.is("readme: " + call, got, want);
    int at = readme.indexOf("\n" + call + ";", from);
    c.is("readme: has " + call, at >= 0, true);
    if (at < 0) return;
    String line = readme.substring(at + 1, readme.indexOf('\n', at + 1));
    c.is("readme: says " + want + ": " + line, line.matches(".*// " + want + "\\b.*"), true);
    from = at + 1;
  }

  private static void text(String s) {
    String line = "tell(sea, \"" + s + "\");";
    c.is("readme: has " + line, readme.indexOf(line, from) >= 0, true);
    Check.tell(sea, s);
  }

  public static void main(String[] args) throws IOException {
    readme = Files.readString(Path.of("README.md"));
    text("4,3-0;10,0w1;2,2se2");
    told("sea.fleet()", sea.fleet(), 3);
    text("a5;b3;c9");
    told("sea.gulls()", sea.gulls(), 3);
    text("p-(h<1)");
    told("sea.rule()", sea.rule(), 0);
    told("sea.write(0)", sea.write(0), 0);
    told("sea.send(0, 0)", sea.send(0, 0), 7);
    told("sea.send(0, 0)", sea.send(0, 0), -2);
    told("sea.comes(0)", sea.comes(0), 2);
    c.row("readme: comes", sea, 0);
    told("sea.halves(2)", sea.halves(2), 1);
    c.row("readme: halves", sea, 1, 1, 0);
    told("sea.letter(0, 1)", sea.letter(0, 1), 2);
    c.letter(sea, 0, 0, 2, 0);
    told("sea.undo()", sea.undo(), 2);
    text("h2;wb;s01;h");
    told("sea.day()", sea.day(), 4);
    c.row("readme: day", sea, 0, 1);
    told("sea.where(1, 3)", sea.where(1, 3), 4);
    c.row("readme: where", sea, -1, 0);
    told("sea.teller(3)", sea.teller(3), 0);
    c.row("readme: teller", sea, 3);
    c.noBoat(sea, 3, 0);
    c.end("ReadmeTest");
  }
}
