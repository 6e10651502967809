import com.sun.source.tree.BinaryTree;
import com.sun.source.tree.CompilationUnitTree;
import com.sun.source.tree.ExpressionTree;
import com.sun.source.tree.LambdaExpressionTree;
import com.sun.source.tree.LiteralTree;
import com.sun.source.tree.MemberReferenceTree;
import com.sun.source.tree.MethodInvocationTree;
import com.sun.source.tree.MethodTree;
import com.sun.source.tree.NewClassTree;
import com.sun.source.tree.ThrowTree;
import com.sun.source.tree.Tree;
import com.sun.source.tree.TryTree;
import com.sun.source.util.JavacTask;
import com.sun.source.util.TreePathScanner;
import com.sun.source.util.Trees;
import java.nio.file.Path;
import java.util.ArrayList;
import java.util.LinkedHashSet;
import java.util.List;
import java.util.Map;
import java.util.Set;
import java.util.TreeMap;
import java.util.TreeSet;
import javax.lang.model.element.Element;
import javax.lang.model.element.ElementKind;
import javax.lang.model.element.ExecutableElement;
import javax.tools.JavaCompiler;
import javax.tools.StandardJavaFileManager;
import javax.tools.ToolProvider;

/** The rules of LANGUAGE.md that need the source's meaning: what it calls, how deep, what it throws. */
public final class LanguageCalls {
  private static final int DEEPEST = 8;
  /** Rule 4, so far as the class uses it. */
  private static final Set<String> LIBRARY = Set.of("java.lang.Object.<init>()",
      "java.lang.String.length()", "java.lang.String.charAt(int)", "java.lang.String.indexOf(int)",
      "java.lang.Integer.bitCount(int)", "java.lang.Math.max(int,int)", "java.lang.Math.min(int,int)",
      "java.lang.System.arraycopy(java.lang.Object,int,java.lang.Object,int,int)",
      "java.util.Arrays.copyOf(int[],int)", "java.util.Arrays.fill(int[],int)", "java.util.Arrays.fill(long[],long)");
  private static final Set<String> THROWN = Set.of("java.lang.IllegalStateException",
      "java.lang.IllegalArgumentException", "java.lang.IndexOutOfBoundsException", "java.util.NoSuchElementException");
  /** Rule 8: who calls itself, by way of others too; each carries its depth as an argument. */
  private static final Set<String> RECURSIVE = Set.of("FrontChairs.risersBring", "FrontChairs.Reader.truth",
      "FrontChairs.Reader.unit", "FrontChairs.Reader.sum", "FrontChairs.Reader.atom");
  private static int wrong = 0;

  private static void demand(boolean holds, String what) {
    if (!holds) {
      wrong++;
      System.out.println(what);
    }
  }

  /** Goes through the source once, and notes who calls whom. */
  private static final class Calls extends TreePathScanner<Void, Void> {
    final Map<String, Set<String>> calls = new TreeMap<>();
    final Map<String, List<String>> parameters = new TreeMap<>();
    private final Trees trees;
    private String here = "";
    private boolean inConstructor = false;

    Calls(Trees trees) { this.trees = trees; }

    private static String name(ExecutableElement method) {
      return method.getEnclosingElement() + "." + method.getSimpleName();
    }

    private void called(Tree tree) {
      Element met = trees.getElement(trees.getPath(getCurrentPath().getCompilationUnit(), tree));
      if (!(met instanceof ExecutableElement)) { return; }
      ExecutableElement method = (ExecutableElement) met;
      String owner = method.getEnclosingElement().toString();
      if (owner.equals("FrontChairs") || owner.startsWith("FrontChairs.")) {
        calls.get(here).add(name(method));
      } else if (!THROWN.contains(owner)) {
        String whole = owner + "." + method.getSimpleName() + method.toString().replaceFirst("^[^(]*", "");
        demand(LIBRARY.contains(whole), "rule 4: " + here + " calls " + whole);
      }
    }

    @Override public Void visitMethod(MethodTree tree, Void none) {
      ExecutableElement method = (ExecutableElement) trees.getElement(getCurrentPath());
      here = name(method);
      inConstructor = method.getKind() == ElementKind.CONSTRUCTOR;
      calls.computeIfAbsent(here, k -> new TreeSet<>());
      demand(parameters.put(here, tree.getParameters().stream().map(p -> p.getName().toString()).toList()) == null,
          "this test takes two methods of one name for one: " + here);
      super.visitMethod(tree, none);
      here = "";
      return null;
    }

    @Override public Void visitMethodInvocation(MethodInvocationTree tree, Void none) {
      called(tree);
      return super.visitMethodInvocation(tree, none);
    }

    @Override public Void visitNewClass(NewClassTree tree, Void none) {
      if (!here.isEmpty()) { called(tree); }
      return super.visitNewClass(tree, none);
    }

    @Override public Void visitThrow(ThrowTree tree, Void none) {
      demand(!inConstructor, "rule 6: a throw in a constructor: " + here);
      ExpressionTree thrown = tree.getExpression();
      boolean made = thrown instanceof NewClassTree;
      demand(made, "rule 6: " + here + " throws what it doesn't make");
      if (made) {
        NewClassTree maker = (NewClassTree) thrown;
        Element met = trees.getElement(trees.getPath(getCurrentPath().getCompilationUnit(), maker));
        demand(met != null && THROWN.contains(met.getEnclosingElement().toString()), "rule 6: " + here + ": " + tree);
        for (ExpressionTree said : maker.getArguments()) {
          demand(said instanceof LiteralTree, "rule 6: no written text: " + tree);
        }
      }
      return super.visitThrow(tree, none);
    }

    @Override public Void visitBinary(BinaryTree tree, Void none) {
      String type = trees.getTypeMirror(getCurrentPath()).toString();
      demand(!type.equals("java.lang.String"), "rule 10: texts joined by +: " + tree);
      return super.visitBinary(tree, none);
    }

    @Override public Void visitTry(TryTree tree, Void none) {
      demand(false, "rule 6: a try, which this class needs nowhere: " + here);
      return super.visitTry(tree, none);
    }

    @Override public Void visitLambdaExpression(LambdaExpressionTree tree, Void none) {
      demand(false, "rule 2: a lambda: " + here);
      return super.visitLambdaExpression(tree, none);
    }

    @Override public Void visitMemberReference(MemberReferenceTree tree, Void none) {
      demand(false, "rule 2: a method reference: " + here);
      return super.visitMemberReference(tree, none);
    }
  }

  private static Calls read() throws Exception {
    JavaCompiler compiler = ToolProvider.getSystemJavaCompiler();
    StandardJavaFileManager files = compiler.getStandardFileManager(null, null, null);
    JavacTask task = (JavacTask) compiler.getTask(null, files, null, List.of("-proc:none"), null,
        files.getJavaFileObjects(Path.of("src/main/java/FrontChairs.java")));
    Calls calls = new Calls(Trees.instance(task));
    Iterable<? extends CompilationUnitTree> units = task.parse();
    task.analyze();
    for (CompilationUnitTree unit : units) { calls.scan(unit, null); }
    return calls;
  }

  /** The longest chain of calls in which none comes twice. */
  private static List<String> longest(Map<String, Set<String>> calls, String from, Set<String> open) {
    List<String> best = new ArrayList<>();
    open.add(from);
    for (String to : calls.getOrDefault(from, Set.of())) {
      if (!open.contains(to)) {
        List<String> chain = longest(calls, to, open);
        if (chain.size() > best.size()) { best = chain; }
      }
    }
    open.remove(from);
    best.add(0, from);
    return best;
  }

  private static boolean reaches(Map<String, Set<String>> calls, String from, String to, Set<String> seen) {
    for (String next : calls.getOrDefault(from, Set.of())) {
      if (next.equals(to) || seen.add(next) && reaches(calls, next, to, seen)) { return true; }
    }
    return false;
  }

  public static void main(String[] args) throws Exception {
    Calls found = read();
    demand(found.calls.size() > 100, "only " + found.calls.size() + " methods were found");
    for (String method : found.calls.keySet()) {
      List<String> chain = longest(found.calls, method, new LinkedHashSet<>());
      demand(chain.size() <= DEEPEST, "rule 11: " + chain.size() + " deep: " + String.join(" > ", chain));
      boolean again = reaches(found.calls, method, method, new TreeSet<>());
      demand(again == RECURSIVE.contains(method), "rule 8: calls itself: " + method);
      demand(!again || found.parameters.get(method).contains("depth"), "rule 8: carries no depth: " + method);
    }
    System.out.println(wrong == 0 ? "all rules are kept" : wrong + " rules are broken");
    if (wrong != 0) { System.exit(1); }
  }
}
