import com.sun.source.tree.AssignmentTree;
import com.sun.source.tree.BinaryTree;
import com.sun.source.tree.ClassTree;
import com.sun.source.tree.CompilationUnitTree;
import com.sun.source.tree.CompoundAssignmentTree;
import com.sun.source.tree.DoWhileLoopTree;
import com.sun.source.tree.EnhancedForLoopTree;
import com.sun.source.tree.ForLoopTree;
import com.sun.source.tree.MethodInvocationTree;
import com.sun.source.tree.MethodTree;
import com.sun.source.tree.NewArrayTree;
import com.sun.source.tree.NewClassTree;
import com.sun.source.tree.Tree;
import com.sun.source.tree.TypeCastTree;
import com.sun.source.tree.UnaryTree;
import com.sun.source.tree.VariableTree;
import com.sun.source.tree.WhileLoopTree;
import com.sun.source.util.JavacTask;
import com.sun.source.util.TreePath;
import com.sun.source.util.TreePathScanner;
import com.sun.source.util.TreeScanner;
import com.sun.source.util.Trees;
import java.io.File;
import java.io.IOException;
import java.util.ArrayList;
import java.util.LinkedHashMap;
import java.util.LinkedHashSet;
import java.util.List;
import java.util.Map;
import java.util.Set;
import javax.lang.model.element.Element;
import javax.lang.model.element.ElementKind;
import javax.lang.model.type.ArrayType;
import javax.lang.model.type.TypeKind;
import javax.lang.model.type.TypeMirror;
import javax.tools.JavaCompiler;
import javax.tools.StandardJavaFileManager;
import javax.tools.ToolProvider;

/** Those rules of LANGUAGE.md that need the compiler's view of the class: calls, loops, types, divisors. */
public final class CodeTests extends TreePathScanner<Void, Void> {
  private static final Check CHECK = new Check();
  private static final String SOURCE = "src/main/java/BestSplits.java";
  private static final int MOST_DEEP = 8;
  private static final Set<String> LIBRARY = Set.of("java.lang.Integer.bitCount(int)",
      "java.lang.Long.compare(long,long)", "java.lang.Math.min(int,int)", "new java.lang.Object");

  /** By method: the methods that it calls. */
  private final Map<String, Set<String>> calls = new LinkedHashMap<>();
  private final Trees trees;
  private String current = "";
  private boolean isInConstructor = true;

  private CodeTests(Trees trees) {
    this.trees = trees;
  }

  public static void main(String[] args) throws IOException {
    JavaCompiler compiler = ToolProvider.getSystemJavaCompiler();
    try (StandardJavaFileManager files = compiler.getStandardFileManager(null, null, null)) {
      JavacTask task = (JavacTask) compiler.getTask(null, files, null, List.of("--release", "17"), null,
          files.getJavaFileObjects(new File(SOURCE)));
      Iterable<? extends CompilationUnitTree> units = task.parse();
      task.analyze();
      CodeTests seen = new CodeTests(Trees.instance(task));
      units.forEach(unit -> seen.scan(unit, null));
      seen.chainsAreShort();
    }
    CHECK.end("CodeTests");
  }

  private void chainsAreShort() {
    CHECK.says("rules 8 and 11: no recursion, calls at most eight deep");
    CHECK.holds("methods were seen", calls.size() > 20);
    for (String method : calls.keySet()) {
      List<String> chain = longestFrom(method, new LinkedHashSet<>());
      CHECK.holds(chain.size() + " deep: " + chain, chain.size() <= MOST_DEEP);
    }
  }

  private List<String> longestFrom(String method, Set<String> open) {
    if (!open.add(method)) {
      CHECK.holds(method + " calls itself: " + open, false);
      return List.of();
    }
    List<String> longest = List.of();
    for (String next : calls.getOrDefault(method, Set.of())) {
      List<String> chain = longestFrom(next, open);
      longest = chain.size() > longest.size() ? chain : longest;
    }
    open.remove(method);
    List<String> all = new ArrayList<>();
    all.add(method);
    all.addAll(longest);
    return all;
  }

  /** All constructors of a class are one here, together with what its fields begin with. */
  private static String nameOf(Element method) {
    String owner = method.getEnclosingElement().toString();
    return method.getKind() == ElementKind.CONSTRUCTOR ? newOf(owner) : owner + "." + method;
  }

  private static String newOf(String owner) {
    return "new " + owner;
  }

  private static boolean isOwn(String name) {
    return name.startsWith("BestSplits") || name.startsWith(newOf("BestSplits"));
  }

  @Override
  public Void visitClass(ClassTree node, Void none) {
    String outer = current;
    current = newOf(trees.getElement(getCurrentPath()).toString());
    super.visitClass(node, none);
    current = outer;
    return null;
  }

  @Override
  public Void visitMethod(MethodTree node, Void none) {
    String outer = current;
    current = nameOf(trees.getElement(getCurrentPath()));
    isInConstructor = node.getReturnType() == null;
    calls.computeIfAbsent(current, name -> new LinkedHashSet<>());
    super.visitMethod(node, none);
    isInConstructor = true;
    current = outer;
    return null;
  }

  @Override
  public Void visitMethodInvocation(MethodInvocationTree node, Void none) {
    note(trees.getElement(new TreePath(getCurrentPath(), node.getMethodSelect())));
    return super.visitMethodInvocation(node, none);
  }

  @Override
  public Void visitNewClass(NewClassTree node, Void none) {
    CHECK.says("rule 12: what a run makes is kept small");
    CHECK.holds("made in a constructor alone: " + node + " in " + current, isInConstructor);
    note(trees.getElement(getCurrentPath()));
    return super.visitNewClass(node, none);
  }

  @Override
  public Void visitNewArray(NewArrayTree node, Void none) {
    CHECK.says("rule 12: what a run makes is kept small");
    CHECK.holds("made in a constructor alone: " + node + " in " + current, isInConstructor);
    return super.visitNewArray(node, none);
  }

  private void note(Element called) {
    String name = nameOf(called);
    CHECK.says("rule 4: of the library only what stands there");
    CHECK.holds(name + " in " + current, isOwn(name) || LIBRARY.contains(name));
    calls.computeIfAbsent(current, method -> new LinkedHashSet<>()).add(name);
  }

  @Override
  public Void visitVariable(VariableTree node, Void none) {
    CHECK.says("rule 3: types");
    CHECK.holds(node + " in " + current, isAllowed(trees.getTypeMirror(getCurrentPath()), 0));
    return super.visitVariable(node, none);
  }

  /** Of two dimensions there are arrays of numbers alone. */
  private static boolean isAllowed(TypeMirror type, int dimensions) {
    if (type.getKind() == TypeKind.ARRAY) {
      return dimensions < 2 && isAllowed(((ArrayType) type).getComponentType(), dimensions + 1);
    }
    boolean isNumber = Set.of(TypeKind.INT, TypeKind.LONG, TypeKind.BOOLEAN).contains(type.getKind());
    return isNumber || (isOwn(type.toString()) && dimensions < 2);
  }

  @Override
  public Void visitTypeCast(TypeCastTree node, Void none) {
    CHECK.says("rule 6: a cast only behind the test that makes it safe");
    CHECK.holds("of numbers: " + node, node.getType().getKind() == Tree.Kind.PRIMITIVE_TYPE);
    return super.visitTypeCast(node, none);
  }

  @Override
  public Void visitForLoop(ForLoopTree node, Void none) {
    CHECK.says("rule 9: every loop has an end that can be seen from its own lines");
    String counter = node.getInitializer().isEmpty() || !(node.getInitializer().get(0) instanceof VariableTree v)
        ? "?" : v.getName().toString();
    boolean isCompared = node.getCondition() != null
        && node.getCondition().toString().matches(".*\\b" + counter + " (<|<=|>=) .*");
    CHECK.holds("a bound for " + counter + " in " + current, isCompared);
    CHECK.holds("a step of " + counter + " in " + current, node.getUpdate().size() == 1
        && node.getUpdate().get(0).toString().matches(counter + "(\\+\\+|--);?"));
    new CounterIsLeftAlone(counter).scan(node.getStatement(), null);
    return super.visitForLoop(node, none);
  }

  /** That the body of a loop does not set the loop's counter. */
  private static final class CounterIsLeftAlone extends TreeScanner<Void, Void> {
    private final String counter;

    CounterIsLeftAlone(String counter) {
      this.counter = counter;
    }

    @Override
    public Void visitAssignment(AssignmentTree node, Void none) {
      CHECK.holds("the body leaves it alone: " + node, !node.getVariable().toString().equals(counter));
      return super.visitAssignment(node, none);
    }

    @Override
    public Void visitCompoundAssignment(CompoundAssignmentTree node, Void none) {
      CHECK.holds("the body leaves it alone: " + node, !node.getVariable().toString().equals(counter));
      return super.visitCompoundAssignment(node, none);
    }

    @Override
    public Void visitUnary(UnaryTree node, Void none) {
      CHECK.holds("the body leaves it alone: " + node, !node.toString().matches(".*(\\+\\+|--).*")
          || !node.getExpression().toString().equals(counter));
      return super.visitUnary(node, none);
    }
  }

  @Override
  public Void visitWhileLoop(WhileLoopTree node, Void none) {
    CHECK.says("rule 9: every loop has an end that can be seen from its own lines");
    CHECK.holds("loops count: " + current, false);
    return super.visitWhileLoop(node, none);
  }

  @Override
  public Void visitDoWhileLoop(DoWhileLoopTree node, Void none) {
    CHECK.says("rule 9: every loop has an end that can be seen from its own lines");
    CHECK.holds("loops count: " + current, false);
    return super.visitDoWhileLoop(node, none);
  }

  @Override
  public Void visitEnhancedForLoop(EnhancedForLoopTree node, Void none) {
    CHECK.says("rule 9: every loop has an end that can be seen from its own lines");
    CHECK.holds("loops count: " + current, false);
    return super.visitEnhancedForLoop(node, none);
  }

  @Override
  public Void visitBinary(BinaryTree node, Void none) {
    if (node.getKind() == Tree.Kind.DIVIDE || node.getKind() == Tree.Kind.REMAINDER) {
      CHECK.says("rule 7: a divisor is looked at before it divides");
      String divisor = node.getRightOperand().toString();
      String method = methodAround().toString();
      int use = method.indexOf(node.toString());
      int look = Math.max(method.indexOf(divisor + " == 0 ?"), method.indexOf(divisor + " != 0;"));
      CHECK.holds(node + " in " + current, look >= 0 && look < use);
    }
    return super.visitBinary(node, none);
  }

  private Tree methodAround() {
    TreePath path = getCurrentPath();
    while (!(path.getLeaf() instanceof MethodTree)) {
      path = path.getParentPath();
    }
    return path.getLeaf();
  }
}
