import com.sun.source.tree.AssertTree;
import com.sun.source.tree.BinaryTree;
import com.sun.source.tree.ClassTree;
import com.sun.source.tree.CompilationUnitTree;
import com.sun.source.tree.DoWhileLoopTree;
import com.sun.source.tree.ForLoopTree;
import com.sun.source.tree.LambdaExpressionTree;
import com.sun.source.tree.MemberReferenceTree;
import com.sun.source.tree.MethodInvocationTree;
import com.sun.source.tree.MethodTree;
import com.sun.source.tree.NewClassTree;
import com.sun.source.tree.SynchronizedTree;
import com.sun.source.tree.ThrowTree;
import com.sun.source.tree.Tree;
import com.sun.source.tree.TryTree;
import com.sun.source.tree.VariableTree;
import com.sun.source.tree.WhileLoopTree;
import com.sun.source.util.JavacTask;
import com.sun.source.util.TreePathScanner;
import com.sun.source.util.Trees;
import java.io.IOException;
import java.nio.file.Path;
import java.util.ArrayDeque;
import java.util.Deque;
import java.util.List;
import java.util.Map;
import java.util.Set;
import java.util.TreeMap;
import java.util.TreeSet;
import javax.lang.model.element.Element;
import javax.lang.model.element.ElementKind;
import javax.lang.model.element.Modifier;
import javax.tools.JavaCompiler;
import javax.tools.StandardJavaFileManager;
import javax.tools.ToolProvider;

/** The rules of LANGUAGE.md, as the compiler's own tree of the source shows them; FaceTest has the face (rule 1). */
final class LanguageTest {
  private static final Path SOURCE = Path.of("src/main/java/TypeSets.java");
  private static final int DEEPEST = 8, MOST_LINES = 60, MOST_PARAMETERS = 7, MOST_CLASSES = 12, MOST_FIELDS = 20;
  /** All of the library that the class uses; each stands in rule 4. */
  private static final Set<String> LIBRARY = Set.of("java.lang.Object.<init>", "java.lang.Integer.bitCount",
    "java.lang.System.arraycopy", "java.util.Arrays.fill");

  public static void main(String[] args) throws IOException {
    JavaCompiler javac = ToolProvider.getSystemJavaCompiler();
    try (StandardJavaFileManager files = javac.getStandardFileManager(null, null, null)) {
      JavacTask task = (JavacTask) javac.getTask(null, files, null, List.of("-proc:none"), null, files.getJavaFileObjects(SOURCE));
      Iterable<? extends CompilationUnitTree> units = task.parse();
      task.analyze();
      Reader reader = new Reader(Trees.instance(task));
      for (CompilationUnitTree unit : units) reader.scan(unit, null);
      reader.close();
    }
    Check.finish();
  }

  private static void ruledOut(boolean is, String what) {
    Check.due(what, is ? 1 : 0, 0);
  }

  /** Goes through the source once: looks at each thing as it comes, and keeps which method calls which. */
  private static final class Reader extends TreePathScanner<Void, Void> {
    private final Trees trees;
    private final Map<String, Set<String>> callees = new TreeMap<>();
    private final Deque<String> methods = new ArrayDeque<>();
    private int classes;

    Reader(Trees trees) {
      this.trees = trees;
    }

    private Element element() {
      return trees.getElement(getCurrentPath());
    }

    private static String nameOf(Element method) {
      return method.getEnclosingElement() + "." + method.getSimpleName();
    }

    @Override
    public Void visitClass(ClassTree tree, Void none) {
      classes++;
      int fields = 0;
      for (Tree member : tree.getMembers()) {
        if (member instanceof VariableTree v && !v.getModifiers().getFlags().contains(Modifier.STATIC)) fields++;
        ruledOut(member.getKind() == Tree.Kind.BLOCK, tree.getSimpleName() + " has an initialiser block (rule 5)");
      }
      ruledOut(fields > MOST_FIELDS, tree.getSimpleName() + " has " + fields + " fields (rule 11)");
      boolean isNested = getCurrentPath().getParentPath().getLeaf() instanceof ClassTree;
      ruledOut(!isNested && classes > 1, tree.getSimpleName() + " stands in a method (rule 2)");
      ruledOut(isNested && !element().getModifiers().contains(Modifier.STATIC), tree.getSimpleName() + " is not static (rule 2)");
      return super.visitClass(tree, none);
    }

    @Override
    public Void visitMethod(MethodTree tree, Void none) {
      String name = nameOf(element());
      callees.putIfAbsent(name, new TreeSet<>());
      ruledOut(tree.getParameters().size() > MOST_PARAMETERS, name + " has too many parameters (rule 11)");
      CompilationUnitTree unit = getCurrentPath().getCompilationUnit();
      long from = trees.getSourcePositions().getStartPosition(unit, tree), to = trees.getSourcePositions().getEndPosition(unit, tree);
      long lines = to < from ? 0 : unit.getLineMap().getLineNumber(to) - unit.getLineMap().getLineNumber(from) + 1;
      ruledOut(lines > MOST_LINES, name + " has " + lines + " lines (rule 11)");
      methods.push(name);
      super.visitMethod(tree, none);
      methods.pop();
      return null;
    }

    @Override
    public Void visitMethodInvocation(MethodInvocationTree tree, Void none) {
      calls(nameOf(element()));
      return super.visitMethodInvocation(tree, none);
    }

    @Override
    public Void visitNewClass(NewClassTree tree, Void none) {
      ruledOut(tree.getClassBody() != null, "a class without a name (rule 2)");
      ruledOut(!methods.isEmpty(), "an object made in " + methods.peek() + ", not with its owner (rule 12)");
      return super.visitNewClass(tree, none);
    }

    private void calls(String callee) {
      String caller = methods.isEmpty() ? "a field" : methods.peek();
      callees.computeIfAbsent(caller, k -> new TreeSet<>()).add(callee);
      ruledOut(!callee.startsWith("TypeSets") && !LIBRARY.contains(callee), caller + " calls " + callee + " (rule 4)");
    }

    @Override
    public Void visitVariable(VariableTree tree, Void none) {
      Element variable = element();
      String type = String.valueOf(tree.getType());
      ruledOut(!type.matches("(int|long|boolean)(\\[\\])?|Rows|Tape|House|Acts|Cells|PlainValues|Asks|Sets|Sides"),
        tree.getName() + " is of " + type + " (rule 3)");
      if (variable.getKind() == ElementKind.FIELD && variable.getModifiers().contains(Modifier.STATIC)) {
        ruledOut(!variable.getModifiers().contains(Modifier.FINAL), tree.getName() + " is not final (rule 5)");
        ruledOut(!type.matches("int|long"), tree.getName() + " is static and of " + type + " (rule 5)");
      }
      return super.visitVariable(tree, none);
    }

    @Override
    public Void visitForLoop(ForLoopTree tree, Void none) {
      ruledOut(tree.getCondition() == null || tree.getUpdate().isEmpty(), "a loop without an end in " + methods.peek() + " (rule 9)");
      return super.visitForLoop(tree, none);
    }

    @Override
    public Void visitBinary(BinaryTree tree, Void none) {
      boolean isText = String.valueOf(trees.getTypeMirror(getCurrentPath())).equals("java.lang.String");
      ruledOut(isText, "texts are joined by + in " + methods.peek() + " (rule 10)");
      return super.visitBinary(tree, none);
    }

    @Override
    public Void scan(Tree tree, Void none) {
      boolean isRefused = tree instanceof ThrowTree || tree instanceof TryTree || tree instanceof SynchronizedTree
        || tree instanceof AssertTree || tree instanceof LambdaExpressionTree || tree instanceof MemberReferenceTree;
      ruledOut(isRefused, "rules 2 and 6: " + tree);
      ruledOut(tree instanceof WhileLoopTree || tree instanceof DoWhileLoopTree, "rule 9 is plainest by for: " + tree);
      return super.scan(tree, none);
    }

    /** What can be told only when all has been read. */
    void close() {
      ruledOut(classes > MOST_CLASSES, classes + " classes (rule 11)");
      Check.due("methods were read", callees.size() > 100 ? 1 : 0, 1);
      for (String method : callees.keySet()) deeper(method, new ArrayDeque<>());
    }

    private void deeper(String method, Deque<String> above) {
      ruledOut(above.contains(method), method + " calls itself (rule 8): " + above);
      above.addLast(method);
      ruledOut(above.size() > DEEPEST, "calls go " + above.size() + " deep (rule 11): " + above);
      if (above.size() <= DEEPEST) {
        for (String callee : callees.getOrDefault(method, Set.of())) {
          if (callee.startsWith("TypeSets")) deeper(callee, above);
        }
      }
      above.removeLast();
    }
  }
}
