import com.sun.source.tree.BinaryTree;
import com.sun.source.tree.ClassTree;
import com.sun.source.tree.CompilationUnitTree;
import com.sun.source.tree.DoWhileLoopTree;
import com.sun.source.tree.ForLoopTree;
import com.sun.source.tree.LiteralTree;
import com.sun.source.tree.MethodInvocationTree;
import com.sun.source.tree.MethodTree;
import com.sun.source.tree.NewArrayTree;
import com.sun.source.tree.NewClassTree;
import com.sun.source.tree.ThrowTree;
import com.sun.source.tree.Tree;
import com.sun.source.tree.TypeCastTree;
import com.sun.source.tree.VariableTree;
import com.sun.source.tree.WhileLoopTree;
import com.sun.source.util.JavacTask;
import com.sun.source.util.TreePath;
import com.sun.source.util.TreePathScanner;
import com.sun.source.util.Trees;
import java.io.IOException;
import java.nio.file.Path;
import java.util.HashMap;
import java.util.LinkedHashMap;
import java.util.LinkedHashSet;
import java.util.Map;
import java.util.Set;
import javax.lang.model.element.Element;
import javax.lang.model.element.ElementKind;
import javax.lang.model.element.ExecutableElement;
import javax.lang.model.element.Modifier;
import javax.lang.model.element.VariableElement;
import javax.tools.JavaCompiler;
import javax.tools.StandardJavaFileManager;
import javax.tools.ToolProvider;

/** The rules of ../shared/LANGUAGE.md for which the compiler has to tell what a name stands for; run where src is. */
public final class TreeTest {
  private static final Path SOURCE = Path.of("src/main/java/Shardmoor.java");
  private static final int MOST_DEEP = 8;
  private static final int MOST_FIELDS = 20;

  private static int wrong = 0;

  private static void complain(String what) {
    wrong++;
    System.out.println(what);
  }

  public static void main(String[] args) throws IOException {
    JavaCompiler compiler = ToolProvider.getSystemJavaCompiler();
    try (StandardJavaFileManager files = compiler.getStandardFileManager(null, null, null)) {
      JavacTask task = (JavacTask) compiler.getTask(null, files, null, null, null, files.getJavaFileObjects(SOURCE));
      Reader reader = new Reader(Trees.instance(task));
      Iterable<? extends CompilationUnitTree> units = task.parse();
      task.analyze();
      reader.scan(units, null);
      Depths depths = new Depths(reader.calls);
      int deepest = 0;
      for (String method : reader.calls.keySet()) {
        deepest = Math.max(deepest, depths.from(method));
      }
      if (deepest > MOST_DEEP) {
        complain("calls go " + deepest + " deep: " + depths.way(deepest));
      }
      if (reader.calls.size() < 150 || deepest < 2) {
        complain("only " + reader.calls.size() + " methods are seen, and calls " + deepest + " deep");
      }
    }
    System.out.println(wrong == 0 ? "no rule is broken as far as the compiler tells" : wrong + " rules are broken");
    if (wrong != 0) {
      System.exit(1);
    }
  }

  /** How many calls stand open at once, from a method on. */
  private static final class Depths {
    private final Map<String, Set<String>> calls;
    private final Map<String, Integer> known = new HashMap<>();
    private final Set<String> open = new LinkedHashSet<>();

    Depths(Map<String, Set<String>> calls) {
      this.calls = calls;
    }

    int from(String method) {
      if (known.containsKey(method)) {
        return known.get(method);
      }
      if (!open.add(method)) {
        complain("a recursion: " + open + " calls " + method);
        return 0;
      }
      int deepest = 0;
      for (String called : calls.getOrDefault(method, Set.of())) {
        deepest = Math.max(deepest, from(called));
      }
      open.remove(method);
      known.put(method, deepest + 1);
      return deepest + 1;
    }

    String way(int deepest) {
      StringBuilder way = new StringBuilder();
      Set<String> from = calls.keySet();
      for (int left = deepest; left > 0; left--) {
        for (String method : from) {
          if (known.get(method) == left) {
            way.append(method).append(' ');
            from = calls.get(method);
            break;
          }
        }
      }
      return way.toString();
    }
  }

  private static final class Reader extends TreePathScanner<Void, Void> {
    final Map<String, Set<String>> calls = new LinkedHashMap<>();
    private final Trees trees;
    private String method = "";
    private boolean isConstructor = false;

    Reader(Trees trees) {
      this.trees = trees;
    }

    private static String nameOf(Element element) {
      return element.getEnclosingElement() + "." + element;
    }

    @Override
    public Void visitMethod(MethodTree tree, Void none) {
      Element element = trees.getElement(getCurrentPath());
      method = nameOf(element);
      isConstructor = element.getKind() == ElementKind.CONSTRUCTOR;
      calls.put(method, new LinkedHashSet<>());
      super.visitMethod(tree, none);
      method = "";
      isConstructor = false;
      return none;
    }

    @Override
    public Void visitMethodInvocation(MethodInvocationTree tree, Void none) {
      Element called = trees.getElement(getCurrentPath());
      if (called instanceof ExecutableElement && nameOf(called).startsWith("Shardmoor") && !method.isEmpty()) {
        calls.get(method).add(nameOf(called));
      }
      return super.visitMethodInvocation(tree, none);
    }

    @Override
    public Void visitNewClass(NewClassTree tree, Void none) {
      boolean isThrown = getCurrentPath().getParentPath().getLeaf() instanceof ThrowTree;
      if (!method.isEmpty() && isThrown == isConstructor) {
        complain(method + " makes " + tree);
      }
      return super.visitNewClass(tree, none);
    }

    @Override
    public Void visitNewArray(NewArrayTree tree, Void none) {
      if (!method.isEmpty() && !isConstructor) {
        complain(method + " makes " + tree);
      }
      return super.visitNewArray(tree, none);
    }

    @Override
    public Void visitThrow(ThrowTree tree, Void none) {
      if (isConstructor) {
        complain(method + " is a constructor and throws");
      }
      return super.visitThrow(tree, none);
    }

    @Override
    public Void visitTypeCast(TypeCastTree tree, Void none) {
      complain(method + " casts: " + tree);
      return super.visitTypeCast(tree, none);
    }

    @Override
    public Void visitBinary(BinaryTree tree, Void none) {
      boolean isDivision = tree.getKind() == Tree.Kind.DIVIDE || tree.getKind() == Tree.Kind.REMAINDER;
      if (isDivision && !isAboveZero(new TreePath(getCurrentPath(), tree.getRightOperand()))) {
        complain(method + " divides by no constant above 0: " + tree);
      }
      return super.visitBinary(tree, none);
    }

    private boolean isAboveZero(TreePath path) {
      Object value = null;
      if (path.getLeaf() instanceof LiteralTree) {
        value = ((LiteralTree) path.getLeaf()).getValue();
      } else if (trees.getElement(path) instanceof VariableElement) {
        value = ((VariableElement) trees.getElement(path)).getConstantValue();
      }
      return value instanceof Integer && (Integer) value > 0;
    }

    @Override
    public Void visitForLoop(ForLoopTree tree, Void none) {
      if (tree.getCondition() == null || tree.getUpdate().isEmpty()) {
        complain(method + " has a loop whose end is not seen: " + tree);
      }
      return super.visitForLoop(tree, none);
    }

    @Override
    public Void visitWhileLoop(WhileLoopTree tree, Void none) {
      complain(method + " has a loop without a counter: " + tree);
      return super.visitWhileLoop(tree, none);
    }

    @Override
    public Void visitDoWhileLoop(DoWhileLoopTree tree, Void none) {
      complain(method + " has a loop without a counter: " + tree);
      return super.visitDoWhileLoop(tree, none);
    }

    @Override
    public Void visitClass(ClassTree tree, Void none) {
      int fields = 0;
      for (Tree member : tree.getMembers()) {
        Element element = trees.getElement(new TreePath(getCurrentPath(), member));
        if (member instanceof VariableTree && !element.getModifiers().contains(Modifier.STATIC)) {
          fields++;
        }
        if (member instanceof VariableTree && element.getModifiers().contains(Modifier.STATIC)
            && ((VariableElement) element).getConstantValue() == null) {
          complain("a static field is no constant: " + element);
        }
        if (member instanceof ClassTree && !element.getModifiers().contains(Modifier.STATIC)) {
          complain("a class inside is not static: " + element);
        }
      }
      if (fields > MOST_FIELDS) {
        complain(tree.getSimpleName() + " has " + fields + " fields");
      }
      return super.visitClass(tree, none);
    }
  }
}
