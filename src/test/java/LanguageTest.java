import com.sun.source.tree.*;
import com.sun.source.util.JavacTask;
import com.sun.source.util.TreePath;
import com.sun.source.util.TreePathScanner;
import com.sun.source.util.Trees;
import java.nio.file.Path;
import java.util.EnumSet;
import java.util.HashMap;
import java.util.List;
import java.util.Map;
import java.util.Set;
import java.util.TreeSet;
import javax.lang.model.element.Element;
import javax.lang.model.element.ElementKind;
import javax.lang.model.element.Modifier;
import javax.lang.model.element.TypeElement;
import javax.lang.model.element.VariableElement;
import javax.tools.JavaCompiler;
import javax.tools.StandardJavaFileManager;
import javax.tools.ToolProvider;

/** The rules of LANGUAGE.md, as far as the compiler's tree of the class shows whether they are kept. */
public final class LanguageTest extends TreePathScanner<Void, Void> {
  private static final Path SOURCE = Path.of("src/main/java/WoodenMains.java");

  /** Rules 2, 6 and 10. */
  private static final Set<Tree.Kind> RULED_OUT = EnumSet.of(Tree.Kind.THROW, Tree.Kind.TRY, Tree.Kind.CATCH,
      Tree.Kind.SYNCHRONIZED, Tree.Kind.ASSERT, Tree.Kind.LAMBDA_EXPRESSION, Tree.Kind.MEMBER_REFERENCE,
      Tree.Kind.PACKAGE, Tree.Kind.STRING_LITERAL, Tree.Kind.DOUBLE_LITERAL, Tree.Kind.FLOAT_LITERAL);
  /** Rule 4, of that only what the class has use for. */
  private static final Set<String> LIBRARY = Set.of("ArrayList.<init>", "ArrayList.add", "ArrayList.get",
      "ArrayList.size", "Arrays.fill", "Integer.bitCount", "Integer.numberOfLeadingZeros",
      "Integer.numberOfTrailingZeros", "Math.floorMod", "Math.max", "Math.min", "Object.<init>",
      "System.arraycopy");
  /** Rules 3 and 5. */
  private static final Set<String> TYPES = Set.of("int", "boolean", "int[]", "void");
  private static final Set<String> STATIC_TYPES = Set.of("int", "int[]");
  /** Rule 6. */
  private static final Set<String> OF_OBJECTS = Set.of("equals", "hashCode", "toString");
  /** Rule 8: its depth is carried as an argument, and a set of streets keeps it at 6 at most. */
  private static final Set<String> RECURSIVE = Set.of("DaySearch.tryFrom");

  private static final int MOST_PARAMETERS = 7;
  private static final int MOST_LINES = 60;
  private static final int MOST_DEPTH = 8;
  private static final int MOST_CLASSES = 12;
  private static final int MOST_FIELDS = 20;

  private final Trees trees;
  private final Map<String, Set<String>> callsOf = new HashMap<>();
  private String method = "";
  private int classes = 0;
  private int wrong = 0;

  private LanguageTest(Trees trees) {
    this.trees = trees;
  }

  public static void main(String[] args) throws Exception {
    JavaCompiler compiler = ToolProvider.getSystemJavaCompiler();
    StandardJavaFileManager files = compiler.getStandardFileManager(null, null, null);
    JavacTask task = (JavacTask) compiler.getTask(null, files, null, List.of("-proc:none"), null,
        files.getJavaFileObjects(SOURCE));
    Iterable<? extends CompilationUnitTree> units = task.parse();
    task.analyze();
    LanguageTest test = new LanguageTest(Trees.instance(task));
    for (CompilationUnitTree unit : units) test.scan(unit, null);
    test.checkWhole();
    if (test.wrong != 0) System.exit(1);
    System.out.println("the rules of LANGUAGE.md are kept, as far as they can be seen");
  }

  private void tell(Tree at, String fault) {
    wrong++;
    System.out.println(SOURCE + " line " + lineOf(at) + ": " + fault);
  }

  private long lineOf(Tree it) {
    CompilationUnitTree unit = getCurrentPath().getCompilationUnit();
    return unit.getLineMap().getLineNumber(trees.getSourcePositions().getStartPosition(unit, it));
  }

  private long linesOf(Tree it) {
    CompilationUnitTree unit = getCurrentPath().getCompilationUnit();
    long end = trees.getSourcePositions().getEndPosition(unit, it);
    return unit.getLineMap().getLineNumber(end) - lineOf(it) + 1;
  }

  private void checkWhole() {
    if (classes > MOST_CLASSES) {
      wrong++;
      System.out.println("there are " + classes + " classes");
    }
    for (String it : callsOf.keySet()) depthOf(it, new TreeSet<>());
  }

  /** How deep calls go below a method; one that stands open already may only be called by itself. */
  private int depthOf(String name, Set<String> open) {
    int deepest = 0;
    open.add(name);
    for (String called : callsOf.getOrDefault(name, Set.of())) {
      if (called.equals(name) && RECURSIVE.contains(name)) continue;
      if (open.contains(called)) {
        wrong++;
        System.out.println(name + " calls itself by " + open);
      } else {
        deepest = Math.max(deepest, depthOf(called, open));
      }
    }
    open.remove(name);
    if (deepest + 1 > MOST_DEPTH) {
      wrong++;
      System.out.println("calls go deeper than eight: " + name);
    }
    return deepest + 1;
  }

  @Override
  public Void scan(Tree it, Void none) {
    if (it != null && RULED_OUT.contains(it.getKind())) {
      wrong++;
      System.out.println("ruled out: " + it);
    }
    return super.scan(it, none);
  }

  @Override
  public Void visitClass(ClassTree it, Void none) {
    classes++;
    TypeElement element = (TypeElement) trees.getElement(getCurrentPath());
    boolean outermost = element.getEnclosingElement().getKind() == ElementKind.PACKAGE;
    if (!outermost && !element.getModifiers().contains(Modifier.STATIC)) tell(it, "a class inside is not static");
    int fields = 0;
    for (Tree member : it.getMembers()) {
      if (member.getKind() == Tree.Kind.BLOCK) tell(member, "a block of initialising");
      if (member instanceof VariableTree field && !field.getModifiers().getFlags().contains(Modifier.STATIC)) fields++;
    }
    if (fields > MOST_FIELDS) tell(it, "it has " + fields + " fields");
    return super.visitClass(it, none);
  }

  @Override
  public Void visitMethod(MethodTree it, Void none) {
    method = nameOf(trees.getElement(getCurrentPath()));
    callsOf.putIfAbsent(method, new TreeSet<>());
    if (OF_OBJECTS.contains(it.getName().toString())) tell(it, "a method of every object: " + it.getName());
    if (it.getParameters().size() > MOST_PARAMETERS) tell(it, "too many parameters");
    if (linesOf(it) > MOST_LINES) tell(it, "it has " + linesOf(it) + " lines");
    return super.visitMethod(it, none);
  }

  @Override
  public Void visitVariable(VariableTree it, Void none) {
    VariableElement element = (VariableElement) trees.getElement(getCurrentPath());
    String type = element.asType().toString();
    if (!isAllowed(type)) tell(it, "a variable of the type " + type);
    if (element.getModifiers().contains(Modifier.STATIC)) {
      if (!element.getModifiers().contains(Modifier.FINAL)) tell(it, "a static field that is not final");
      if (!STATIC_TYPES.contains(type)) tell(it, "a static field of the type " + type);
    }
    return super.visitVariable(it, none);
  }

  private static boolean isAllowed(String type) {
    if (TYPES.contains(type)) return true;
    return type.matches("WoodenMains(\\.\\w+)?(\\[\\])?") || type.matches("java\\.util\\.ArrayList<WoodenMains\\.\\w+>");
  }

  @Override
  public Void visitMethodInvocation(MethodInvocationTree it, Void none) {
    call(it, trees.getElement(new TreePath(getCurrentPath(), it.getMethodSelect())));
    return super.visitMethodInvocation(it, none);
  }

  @Override
  public Void visitNewClass(NewClassTree it, Void none) {
    if (it.getClassBody() != null) tell(it, "a class without a name");
    call(it, trees.getElement(getCurrentPath()));
    return super.visitNewClass(it, none);
  }

  private void call(Tree at, Element called) {
    String name = nameOf(called);
    if (isOwn(called)) {
      callsOf.computeIfAbsent(method, m -> new TreeSet<>()).add(name);
    } else if (!LIBRARY.contains(name)) {
      tell(at, "a call of the library: " + name);
    }
  }

  @Override
  public Void visitMemberSelect(MemberSelectTree it, Void none) {
    Element element = trees.getElement(getCurrentPath());
    boolean isField = element != null && element.getKind().isField();
    if (isField && element.getEnclosingElement() instanceof TypeElement && !isOwn(element)) {
      tell(it, "a field of the library: " + it);
    }
    return super.visitMemberSelect(it, none);
  }

  @Override
  public Void visitAssignment(AssignmentTree it, Void none) {
    checkKept(it, it.getVariable());
    return super.visitAssignment(it, none);
  }

  @Override
  public Void visitCompoundAssignment(CompoundAssignmentTree it, Void none) {
    checkKept(it, it.getVariable());
    return super.visitCompoundAssignment(it, none);
  }

  @Override
  public Void visitUnary(UnaryTree it, Void none) {
    checkKept(it, it.getExpression());
    return super.visitUnary(it, none);
  }

  /** Rule 5: rows that are static are never changed. */
  private void checkKept(Tree at, ExpressionTree changed) {
    if (!(changed instanceof ArrayAccessTree access)) return;
    TreePath path = new TreePath(new TreePath(getCurrentPath(), access), access.getExpression());
    Element element = trees.getElement(path);
    if (element != null && element.getModifiers().contains(Modifier.STATIC)) tell(at, "a static row is changed");
  }

  private static boolean isOwn(Element it) {
    Element outermost = it;
    while (outermost.getEnclosingElement().getKind() != ElementKind.PACKAGE) {
      outermost = outermost.getEnclosingElement();
    }
    return outermost.getSimpleName().contentEquals("WoodenMains");
  }

  private static String nameOf(Element it) {
    return it.getEnclosingElement().getSimpleName() + "." + it.getSimpleName();
  }
}
