import com.sun.source.tree.CompilationUnitTree;
import com.sun.source.tree.MethodInvocationTree;
import com.sun.source.tree.MethodTree;
import com.sun.source.tree.NewClassTree;
import com.sun.source.tree.Tree;
import com.sun.source.util.JavacTask;
import com.sun.source.util.TreePath;
import com.sun.source.util.TreePathScanner;
import com.sun.source.util.Trees;
import java.io.File;
import java.util.ArrayList;
import java.util.Arrays;
import java.util.HashSet;
import java.util.List;
import java.util.Map;
import java.util.Set;
import java.util.TreeMap;
import java.util.TreeSet;
import javax.lang.model.element.Element;
import javax.lang.model.element.ElementKind;
import javax.tools.JavaCompiler;
import javax.tools.StandardJavaFileManager;
import javax.tools.ToolProvider;

/**
 * Who calls whom in the class, by the compiler's own trees: the library that rule 4 of LANGUAGE.md
 * leaves, the depth of calls that rules 8 and 11 leave, and the statements that rules 2, 6 forbid.
 */
public final class CallsTest {
  private static final int DEEPEST = 8;
  private static final int MOST_LINES = 60;
  private static final int MOST_OPEN_CALLS = 300;
  private static final int LEVELS_OF_RECURSION = 9;

  private static final Set<String> LIBRARY = new HashSet<>(Arrays.asList(
    "String.length", "String.charAt", "String.isEmpty", "String.equals", "String.indexOf", "String.substring", "String.toCharArray",
    "System.arraycopy", "Arrays.copyOf", "Arrays.copyOfRange", "Arrays.fill", "Integer.bitCount", "Integer.compare",
    "Math.max", "Math.min", "Math.abs", "Math.floorDiv", "Math.floorMod", "Object.<init>"));

  private static final Set<Tree.Kind> FORBIDDEN = new HashSet<>(Arrays.asList(
    Tree.Kind.THROW, Tree.Kind.TRY, Tree.Kind.CATCH, Tree.Kind.SYNCHRONIZED, Tree.Kind.ASSERT, Tree.Kind.LAMBDA_EXPRESSION,
    Tree.Kind.MEMBER_REFERENCE, Tree.Kind.ANNOTATION, Tree.Kind.SWITCH_EXPRESSION, Tree.Kind.YIELD));

  private static int wrong = 0;

  private static void fail(String what) {
    wrong++;
    System.out.println(what);
  }

  public static void main(String[] args) throws Exception {
    JavaCompiler compiler = ToolProvider.getSystemJavaCompiler();
    Graph graph = new Graph();
    try (StandardJavaFileManager files = compiler.getStandardFileManager(null, null, null)) {
      JavacTask task = (JavacTask) compiler.getTask(null, files, null, Arrays.asList("-proc:none"), null,
        files.getJavaFileObjects(new File("src/main/java/PerfectFerried.java")));
      Iterable<? extends CompilationUnitTree> units = task.parse();
      task.analyze();
      for (CompilationUnitTree unit : units) new Scan(Trees.instance(task), unit, graph).scan(new TreePath(unit), null);
    }
    if (graph.calls.size() < 100) fail("hardly a method was seen: " + graph.calls.size());
    for (String called : graph.library) if (!LIBRARY.contains(called)) fail("rule 4: " + called);
    graph.look();
    if (args.length > 0) System.out.println(graph.calls);
    System.out.println(wrong == 0 ? graph.calls.size() + " methods call as they may, at most " + graph.deepest + " deep" : wrong + " rules are broken");
    if (wrong != 0) System.exit(1);
  }

  /** Of each method, by class and name, which ones of the file it calls. */
  private static final class Graph {
    final Map<String, Set<String>> calls = new TreeMap<>();
    final Set<String> library = new TreeSet<>();
    int deepest = 0;

    void look() {
      Set<String> recursive = new TreeSet<>();
      for (String method : calls.keySet()) if (reach(method).contains(method)) recursive.add(method);
      for (String method : recursive) {
        if (!method.startsWith("Reader.")) fail("rule 8: a recursion that was not looked at: " + method);
      }
      if (recursive.size() * LEVELS_OF_RECURSION + DEEPEST > MOST_OPEN_CALLS) fail("rule 8: too many calls can stand open: " + recursive);
      for (String method : calls.keySet()) {
        List<String> path = longest(method);
        deepest = Math.max(deepest, path.size());
        if (path.size() > DEEPEST) fail("rule 11: " + path);
      }
    }

    Set<String> reach(String from) {
      Set<String> met = new TreeSet<>();
      List<String> left = new ArrayList<>(calls.getOrDefault(from, Set.of()));
      while (!left.isEmpty()) {
        String next = left.remove(left.size() - 1);
        if (met.add(next)) left.addAll(calls.getOrDefault(next, Set.of()));
      }
      return met;
    }

    /** The longest chain of calls from here; methods that call one another count once, together. */
    List<String> longest(String from) {
      Set<String> together = new TreeSet<>();
      together.add(from);
      Set<String> reached = reach(from);
      for (String other : reached) if (reach(other).contains(from)) together.add(other);
      List<String> best = new ArrayList<>();
      for (String one : together) {
        for (String next : calls.getOrDefault(one, Set.of())) {
          if (together.contains(next)) continue;
          List<String> path = longest(next);
          if (path.size() > best.size()) best = path;
        }
      }
      List<String> all = new ArrayList<>();
      all.add(from);
      all.addAll(best);
      return all;
    }
  }

  private static final class Scan extends TreePathScanner<Void, Void> {
    private final Trees trees;
    private final CompilationUnitTree unit;
    private final Graph graph;
    private String method = "";

    Scan(Trees trees, CompilationUnitTree unit, Graph graph) {
      this.trees = trees;
      this.unit = unit;
      this.graph = graph;
    }

    @Override
    public Void scan(Tree tree, Void nothing) {
      if (tree != null && FORBIDDEN.contains(tree.getKind())) fail("rule 2, 6: " + tree.getKind() + " in " + method);
      return super.scan(tree, nothing);
    }

    private static String name(Element method) {
      return method.getEnclosingElement().getSimpleName() + "." + method.getSimpleName();
    }

    @Override
    public Void visitMethod(MethodTree tree, Void nothing) {
      String around = method;
      method = name(trees.getElement(getCurrentPath()));
      graph.calls.computeIfAbsent(method, key -> new TreeSet<>());
      if (tree.getParameters().size() > 7) fail("rule 11: too many parameters: " + method);
      if (lines(tree) > MOST_LINES) fail("rule 11: too long: " + method);
      super.visitMethod(tree, nothing);
      method = around;
      return null;
    }

    private long lines(MethodTree tree) {
      long start = trees.getSourcePositions().getStartPosition(unit, tree);
      long end = trees.getSourcePositions().getEndPosition(unit, tree);
      return start < 0 || end < 0 ? 0 : unit.getLineMap().getLineNumber(end) - unit.getLineMap().getLineNumber(start) + 1;
    }

    /** Overloads share a name here: the graph is then the deeper one, never the shallower. */
    private void called(Element what) {
      Element owner = what.getEnclosingElement();
      boolean ours = owner.toString().equals("PerfectFerried") || owner.toString().startsWith("PerfectFerried.");
      if (!ours) {
        graph.library.add(name(what));
        return;
      }
      String from = method.isEmpty() ? "what fields are first" : method;
      graph.calls.computeIfAbsent(from, key -> new TreeSet<>()).add(name(what));
    }

    @Override
    public Void visitMethodInvocation(MethodInvocationTree tree, Void nothing) {
      Element what = trees.getElement(getCurrentPath());
      if (what != null && (what.getKind() == ElementKind.METHOD || what.getKind() == ElementKind.CONSTRUCTOR)) called(what);
      return super.visitMethodInvocation(tree, nothing);
    }

    @Override
    public Void visitNewClass(NewClassTree tree, Void nothing) {
      if (tree.getClassBody() != null) fail("rule 2: a class without a name in " + method);
      Element what = trees.getElement(getCurrentPath());
      if (what != null) called(what);
      return super.visitNewClass(tree, nothing);
    }
  }
}
