import com.sun.source.tree.*;
import com.sun.source.util.JavacTask;
import com.sun.source.util.TreePath;
import com.sun.source.util.TreePathScanner;
import com.sun.source.util.Trees;
import java.io.File;
import java.util.ArrayList;
import java.util.Arrays;
import java.util.HashSet;
import java.util.LinkedHashMap;
import java.util.LinkedHashSet;
import java.util.List;
import java.util.Map;
import java.util.Set;
import javax.lang.model.element.Element;
import javax.lang.model.element.ElementKind;
import javax.lang.model.element.ExecutableElement;
import javax.lang.model.element.Modifier;
import javax.lang.model.element.TypeElement;
import javax.lang.model.type.TypeMirror;
import javax.tools.JavaCompiler;
import javax.tools.JavaFileObject;
import javax.tools.StandardJavaFileManager;
import javax.tools.ToolProvider;

/**
 * The program keeps to ../shared/LANGUAGE.md, as far as its source tells: javac's own tree of it is gone through, and
 * what the rules do not name is refused. Rule 1 is FaceTest's; whether the machine throws (rule 7), the depth of a
 * recursion (8) and the ends of loops (9, but for loops without a condition) are not told here. Some of it is narrower
 * than the rules, as the program is: no call makes an object or a row, nothing is cast but numbers, no class is without
 * a name. Another source file may be given as an argument.
 */
public final class LanguageTest {
  private static final String PROGRAM = "src/main/java/OneGullToABoat.java";
  private static final Set<String> NUMBERS = words("int long short byte char boolean double float");
  private static final Set<String> ROWS = words("int[] long[] char[] byte[]");
  private static final Set<String> THROWN = words("IllegalStateException IllegalArgumentException "
      + "IndexOutOfBoundsException ArithmeticException UnsupportedOperationException NoSuchElementException "
      + "RuntimeException");
  private static final Set<String> LIBRARY = words("String.length String.charAt String.isEmpty String.equals "
      + "String.indexOf String.substring String.toCharArray StringBuilder.append StringBuilder.charAt "
      + "StringBuilder.setCharAt StringBuilder.setLength StringBuilder.deleteCharAt StringBuilder.reverse "
      + "StringBuilder.length StringBuilder.toString List.of System.arraycopy Arrays.copyOf Arrays.copyOfRange "
      + "Arrays.fill Math.max Math.min Math.abs Math.floorDiv Math.floorMod Integer.compare Integer.max Integer.min "
      + "Integer.bitCount Long.compare Long.max Long.min Long.bitCount");
  private static final Set<String> LISTED = words("add get set remove size isEmpty clear");
  private static final int DEEPEST = 8;

  private final Set<String> broken = new LinkedHashSet<>();
  private final Map<Element, Set<Element>> calls = new LinkedHashMap<>();
  private final Set<Element> faces = new LinkedHashSet<>();
  private final Set<Element> fromLibrary = new HashSet<>();
  private final Set<Element> recursive = new HashSet<>();
  private final Map<Element, Integer> depths = new LinkedHashMap<>();
  private CompilationUnitTree unit;
  private Trees trees;
  private int classes;
  private int seen;

  private static Set<String> words(String s) { return new HashSet<>(Arrays.asList(s.split(" "))); }

  private void refuse(Tree t, String why) {
    long at = t == null ? -1 : trees.getSourcePositions().getStartPosition(unit, t);
    String line = at < 0 ? "" : "line " + unit.getLineMap().getLineNumber(at) + ": ";
    broken.add(line + why);
  }

  private boolean isOwn(Element e) {
    Element outer = e;
    while (outer != null && outer.getKind() != ElementKind.PACKAGE) {
      if (outer.getSimpleName().contentEquals("OneGullToABoat")) return true;
      outer = outer.getEnclosingElement();
    }
    return false;
  }

  private static String shortName(TypeMirror t) {
    String s = t.toString();
    int generic = s.indexOf('<');
    if (generic >= 0) s = s.substring(0, generic);
    return s.substring(s.lastIndexOf('.') + 1);
  }

  private boolean isKnownType(TypeMirror type) {
    String s = type.toString();
    if (s.endsWith("[][]")) return NUMBERS.contains(s.substring(0, s.length() - 4));
    if (s.endsWith("[]")) s = s.substring(0, s.length() - 2);
    if (NUMBERS.contains(s) || s.equals("void") || s.startsWith("OneGullToABoat")) return true;
    return words("String StringBuilder ArrayList List").contains(shortName(type));
  }

  private final class Rules extends TreePathScanner<Void, Void> {
    private Element method;
    private boolean inConstructor;
    private boolean inThrow;

    private TypeMirror typeOf(Tree t) {
      return trees.getTypeMirror(new TreePath(getCurrentPath(), t));
    }

    @Override public Void visitClass(ClassTree t, Void v) {
      classes++;
      Tree around = getCurrentPath().getParentPath().getLeaf();
      if (!(around instanceof CompilationUnitTree) && !(around instanceof ClassTree)) refuse(t, "2: a local class");
      int fields = 0;
      for (Tree member : t.getMembers()) {
        seen++;
        if (member instanceof BlockTree && ((BlockTree) member).isStatic()) refuse(member, "5: a static block");
        if (!(member instanceof VariableTree)) continue;
        VariableTree field = (VariableTree) member;
        if (!field.getModifiers().getFlags().contains(Modifier.STATIC)) fields++;
        else checkStatic(field);
      }
      if (fields > 20) refuse(t, "11: more than 20 fields");
      return super.visitClass(t, v);
    }

    private void checkStatic(VariableTree field) {
      String type = String.valueOf(field.getType());
      boolean row = ROWS.contains(type) && field.getInitializer() instanceof NewArrayTree
          && ((NewArrayTree) field.getInitializer()).getInitializers() != null;
      if (!field.getModifiers().getFlags().contains(Modifier.FINAL)) refuse(field, "5: static and not final");
      if (!row && !words("int long boolean char String").contains(type)) refuse(field, "5: static " + type);
    }

    @Override public Void visitMethod(MethodTree t, Void v) {
      ExecutableElement e = (ExecutableElement) trees.getElement(getCurrentPath());
      Element outerMethod = method;
      method = e;
      inConstructor = e.getKind() == ElementKind.CONSTRUCTOR;
      calls.computeIfAbsent(e, k -> new LinkedHashSet<>());
      if (e.getModifiers().contains(Modifier.PUBLIC)) faces.add(e);
      if (words("equals hashCode toString").contains(e.getSimpleName().toString())) refuse(t, "6: " + e);
      if (t.getParameters().size() > 7) refuse(t, "11: more than seven parameters");
      if (e.getModifiers().contains(Modifier.SYNCHRONIZED)) refuse(t, "6: synchronized");
      if (!isKnownType(e.getReturnType())) refuse(t, "3: " + e.getReturnType());
      long from = unit.getLineMap().getLineNumber(trees.getSourcePositions().getStartPosition(unit, t));
      long to = unit.getLineMap().getLineNumber(Math.max(1, trees.getSourcePositions().getEndPosition(unit, t)));
      if (to - from >= 60) refuse(t, "11: a method of more than sixty lines");
      super.visitMethod(t, v);
      method = outerMethod;
      inConstructor = false;
      return null;
    }

    @Override public Void visitVariable(VariableTree t, Void v) {
      TypeMirror type = trees.getTypeMirror(getCurrentPath());
      boolean caught = getCurrentPath().getParentPath().getLeaf() instanceof CatchTree;
      if (caught ? !THROWN.contains(shortName(type)) : !isKnownType(type)) refuse(t, "3: " + type);
      return super.visitVariable(t, v);
    }

    @Override public Void visitMethodInvocation(MethodInvocationTree t, Void v) {
      Element e = trees.getElement(getCurrentPath());
      seen++;
      boolean superCall = e.getKind() == ElementKind.CONSTRUCTOR;
      if (!superCall) note(e);
      if (!superCall && !isOwn(e) && !isListed(t, e)) refuse(t, "4: " + e.getEnclosingElement() + "." + e);
      if (inConstructor && !superCall && isOwn(e)) refuse(t, "12: a constructor that calls a method");
      return super.visitMethodInvocation(t, v);
    }

    private boolean isListed(MethodInvocationTree t, Element e) {
      String owner = shortName(e.getEnclosingElement().asType());
      String name = e.getSimpleName().toString();
      if (name.equals("clone") && t.getMethodSelect() instanceof MemberSelectTree) {
        TypeMirror of = typeOf(((MemberSelectTree) t.getMethodSelect()).getExpression());
        return of != null && of.toString().endsWith("[]");
      }
      if (owner.equals("List") || owner.equals("ArrayList") || owner.equals("Collection")) return LISTED.contains(name);
      return LIBRARY.contains(owner + "." + name);
    }

    private void note(Element e) {
      if (method == null) return;
      calls.get(method).add(e);
      if (!isOwn(e)) fromLibrary.add(e);
    }

    @Override public Void visitNewClass(NewClassTree t, Void v) {
      Element e = trees.getElement(getCurrentPath());
      if (t.getClassBody() != null) refuse(t, "a class without a name");
      String name = e.getEnclosingElement().getSimpleName().toString();
      if (!isOwn(e) && !inThrow) refuse(t, "4: new " + name);
      // the design's own bound, which keeps a run in its room: rows and objects are made once
      if (method != null && !inConstructor && !inThrow) refuse(t, "12: a call that makes an object");
      return super.visitNewClass(t, v);
    }

    @Override public Void visitNewArray(NewArrayTree t, Void v) {
      if (method != null && !inConstructor) refuse(t, "12: a call that makes an array");
      return super.visitNewArray(t, v);
    }

    @Override public Void visitThrow(ThrowTree t, Void v) {
      boolean good = t.getExpression() instanceof NewClassTree;
      if (good) {
        NewClassTree made = (NewClassTree) t.getExpression();
        good = THROWN.contains(String.valueOf(made.getIdentifier())) && made.getArguments().size() < 2;
        for (Tree a : made.getArguments()) good &= a instanceof LiteralTree;
      }
      if (!good || inConstructor) refuse(t, "6: " + t);
      inThrow = true;
      super.visitThrow(t, v);
      inThrow = false;
      return null;
    }

    @Override public Void visitTry(TryTree t, Void v) {
      if (t.getFinallyBlock() != null || !t.getResources().isEmpty()) refuse(t, "6: finally, or resources");
      for (CatchTree k : t.getCatches()) {
        String name = String.valueOf(k.getParameter().getType());
        if (!THROWN.contains(name)) refuse(k, "6: catch " + name);
        // the machine throws these too, or classes below them
        if (words("RuntimeException ArithmeticException IndexOutOfBoundsException").contains(name)) {
          refuse(k, "what the machine throws could be caught: " + name);
        }
      }
      return super.visitTry(t, v);
    }

    @Override public Void visitTypeCast(TypeCastTree t, Void v) {
      if (!NUMBERS.contains(String.valueOf(t.getType()))) refuse(t, "6: look at this cast, and name it here: " + t);
      return super.visitTypeCast(t, v);
    }

    @Override public Void visitBinary(BinaryTree t, Void v) {
      String left = String.valueOf(typeOf(t.getLeftOperand()));
      String right = String.valueOf(typeOf(t.getRightOperand()));
      boolean texts = left.equals("java.lang.String") || right.equals("java.lang.String");
      if (texts && t.getKind() == Tree.Kind.PLUS) refuse(t, "10: texts joined by +");
      boolean same = t.getKind() == Tree.Kind.EQUAL_TO || t.getKind() == Tree.Kind.NOT_EQUAL_TO;
      boolean boxed = left.equals("java.lang.Integer") && right.equals(left);
      if (same && (boxed || left.equals("java.lang.String") && right.equals(left))) refuse(t, "6: " + t);
      return super.visitBinary(t, v);
    }

    @Override public Void visitCompoundAssignment(CompoundAssignmentTree t, Void v) {
      if (String.valueOf(typeOf(t.getVariable())).equals("java.lang.String")) refuse(t, "10: texts joined by +=");
      return super.visitCompoundAssignment(t, v);
    }

    @Override public Void visitLiteral(LiteralTree t, Void v) {
      String s = t.getValue() instanceof String || t.getValue() instanceof Character ? t.getValue().toString() : "";
      for (char c : s.toCharArray()) if (c < 1 || c > 127) refuse(t, "4: a sign that is not 1 to 127");
      return super.visitLiteral(t, v);
    }

    @Override public Void visitForLoop(ForLoopTree t, Void v) {
      if (t.getCondition() == null) refuse(t, "9: a loop without an end");
      return super.visitForLoop(t, v);
    }

    @Override public Void visitWhileLoop(WhileLoopTree t, Void v) {
      if (String.valueOf(t.getCondition()).equals("(true)")) refuse(t, "9: a loop without an end");
      return super.visitWhileLoop(t, v);
    }

    @Override public Void visitDoWhileLoop(DoWhileLoopTree t, Void v) {
      if (String.valueOf(t.getCondition()).equals("(true)")) refuse(t, "9: a loop without an end");
      return super.visitDoWhileLoop(t, v);
    }

    @Override public Void visitLambdaExpression(LambdaExpressionTree t, Void v) {
      refuse(t, "2: a lambda");
      return null;
    }

    @Override public Void visitMemberReference(MemberReferenceTree t, Void v) {
      refuse(t, "2: a method reference");
      return null;
    }

    @Override public Void visitSynchronized(SynchronizedTree t, Void v) {
      refuse(t, "6: synchronized");
      return super.visitSynchronized(t, v);
    }

    @Override public Void visitAssert(AssertTree t, Void v) {
      refuse(t, "6: assert");
      return super.visitAssert(t, v);
    }

    @Override public Void visitSwitch(SwitchTree t, Void v) {
      if (String.valueOf(typeOf(t.getExpression())).contains("String")) refuse(t, "10: switch on texts");
      return super.visitSwitch(t, v);
    }
  }

  private boolean reaches(Element from, Element to, Set<Element> gone) {
    for (Element e : calls.getOrDefault(from, Set.of())) {
      if (e.equals(to) || gone.add(e) && reaches(e, to, gone)) return true;
    }
    return false;
  }

  /** Calls that stand open at once, library and all; those of a recursion, each at most once on the way, count as none. */
  private int depth(Element e, Set<Element> open) {
    if (!recursive.contains(e) && depths.containsKey(e)) return depths.get(e);
    int below = 0;
    open.add(e);
    for (Element k : calls.getOrDefault(e, Set.of())) if (!open.contains(k)) below = Math.max(below, depth(k, open));
    open.remove(e);
    int all = below + (recursive.contains(e) ? 0 : 1);
    if (!recursive.contains(e)) depths.put(e, all);
    return all;
  }

  private void checkCalls() {
    for (Element e : calls.keySet()) {
      if (!reaches(e, e, new HashSet<>())) continue;
      recursive.add(e);
      if (!e.getModifiers().contains(Modifier.PRIVATE)) refuse(trees.getTree(e), "8: recursion of what is not private");
    }
    for (Element e : faces) {
      int deep = depth(e, new HashSet<>());
      if (deep > DEEPEST) refuse(trees.getTree(e), "11: " + e + " goes " + deep + " calls deep");
    }
  }

  private void read(JavaCompiler compiler, File source) throws java.io.IOException {
    StandardJavaFileManager files = compiler.getStandardFileManager(null, null, null);
    Iterable<? extends JavaFileObject> sources = files.getJavaFileObjects(source);
    JavacTask task = (JavacTask) compiler.getTask(null, files, null, List.of("-proc:none"), null, sources);
    List<CompilationUnitTree> units = new ArrayList<>();
    for (CompilationUnitTree u : task.parse()) units.add(u);
    task.analyze();
    trees = Trees.instance(task);
    for (CompilationUnitTree u : units) {
      unit = u;
      if (u.getPackageName() != null) refuse(u.getPackageName(), "a package line");
      if (u.getTypeDecls().size() != 1) refuse(u, "1: more than one class");
      new Rules().scan(u, null);
    }
    if (classes > 12) refuse(null, "11: " + classes + " classes");
    checkCalls();
  }

  public static void main(String[] args) throws java.io.IOException {
    JavaCompiler compiler = ToolProvider.getSystemJavaCompiler();
    if (compiler == null) {
      System.out.println("LanguageTest: this java has no javac inside, so NOTHING was checked");
      return;
    }
    LanguageTest test = new LanguageTest();
    test.read(compiler, new File(args.length > 0 ? args[0] : PROGRAM));
    for (String s : test.broken) System.out.println(s);
    System.out.println("LanguageTest: " + test.seen + " members and calls seen, " + test.broken.size() + " broken");
    if (!test.broken.isEmpty() || test.seen < 100 || test.faces.size() < 46) System.exit(1);
  }
}
