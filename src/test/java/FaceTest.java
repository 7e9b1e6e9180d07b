import java.lang.reflect.Constructor;
import java.lang.reflect.Field;
import java.lang.reflect.Member;
import java.lang.reflect.Method;
import java.lang.reflect.Modifier;
import java.util.ArrayList;
import java.util.Arrays;
import java.util.List;
import java.util.TreeSet;

/** The public face is the document's and nothing more; no private method bears the name of a public one. */
public final class FaceTest {
  private static final String[] FACE = {"int sign 1", "boolean end 1", "int fleet 0", "int gulls 0", "int rule 0",
      "int boat 2", "int gull 2", "int letter 2", "int weather 2", "int sheet 4", "int write 1", "int send 2",
      "int paint 2", "int show 1", "int chum 2", "int feed 1", "int half 0", "int halves 1", "int day 0", "int undo 0",
      "int where 2", "int comes 1", "int would 1", "int delivers 1", "int due 1", "int heads 1", "int nearest 2",
      "int shouted 3", "int spreads 2", "int teller 1", "int order 2", "int thief 1", "int astray 0", "int fits 2",
      "int ring 1", "int lonely 0", "int train 2", "int codes 1", "int slip 2", "int opens 4", "int season 3",
      "boolean keep 1", "boolean again 1", "int count 1", "int row 1"};
  private static final Check c = new Check();

  private static boolean hidden(Member m) {
    return m.isSynthetic() || Modifier.isPrivate(m.getModifiers());
  }

  public static void main(String[] args) {
    Class<?> face = OneGullToABoat.class;
    c.is("face: public and final", face.getModifiers(), Modifier.PUBLIC | Modifier.FINAL);
    TreeSet<String> got = new TreeSet<>();
    for (Method m : face.getDeclaredMethods()) {
      if (hidden(m)) continue;
      got.add(m.getReturnType() + " " + m.getName() + " " + m.getParameterCount());
      c.is("face: public " + m.getName(), m.getModifiers(), Modifier.PUBLIC);
      for (Class<?> p : m.getParameterTypes()) c.is("face: ints alone", p == int.class, true);
    }
    TreeSet<String> want = new TreeSet<>(Arrays.asList(FACE));
    if (!got.equals(want)) System.out.println(got + "\n" + want);
    c.is("face: methods", got.equals(want), true);
    for (Constructor<?> k : face.getDeclaredConstructors()) c.is("face: constructor", k.getParameterCount(), 0);
    List<String> fields = new ArrayList<>();
    for (Field f : face.getDeclaredFields()) if (!hidden(f)) fields.add(f.getName());
    c.is("face: NONE alone", fields.equals(List.of("NONE")), true);
    TreeSet<String> names = new TreeSet<>();
    for (String s : want) names.add(s.split(" ")[1]);
    noNamesakes(face, names);
    for (Class<?> inside : face.getDeclaredClasses()) {
      c.is("face: " + inside.getName() + " static", Modifier.isStatic(inside.getModifiers()), true);
      noNamesakes(inside, names);
    }
    c.end("FaceTest");
  }

  private static void noNamesakes(Class<?> k, TreeSet<String> names) {
    for (Method m : k.getDeclaredMethods()) {
      if (Modifier.isPublic(m.getModifiers())) continue;
      c.is("face: namesake " + k.getName() + "." + m.getName(), names.contains(m.getName()), false);
    }
  }
}
