import com.sun.source.tree.AssignmentTree;
import com.sun.source.tree.BinaryTree;
import com.sun.source.tree.ClassTree;
import com.sun.source.tree.CompilationUnitTree;
import com.sun.source.tree.CompoundAssignmentTree;
import com.sun.source.tree.DoWhileLoopTree;
import com.sun.source.tree.ImportTree;
import com.sun.source.tree.LineMap;
import com.sun.source.tree.MethodInvocationTree;
import com.sun.source.tree.MethodTree;
import com.sun.source.tree.NewArrayTree;
import com.sun.source.tree.NewClassTree;
import com.sun.source.tree.Tree;
import com.sun.source.tree.TypeCastTree;
import com.sun.source.tree.VariableTree;
import com.sun.source.tree.WhileLoopTree;
import com.sun.source.util.JavacTask;
import com.sun.source.util.SourcePositions;
import com.sun.source.util.TreePath;
import com.sun.source.util.TreePathScanner;
import com.sun.source.util.Trees;
import java.nio.file.Path;
import java.util.ArrayList;
import java.util.EnumSet;
import java.util.HashMap;
import java.util.HashSet;
import java.util.List;
import java.util.Map;
import java.util.Set;
import java.util.TreeSet;
import javax.lang.model.element.Element;
import javax.lang.model.element.ExecutableElement;
import javax.lang.model.element.Modifier;
import javax.lang.model.type.TypeKind;
import javax.lang.model.type.TypeMirror;
import javax.tools.JavaCompiler;
import javax.tools.ToolProvider;

/** The rules of LANGUAGE.md as far as the compiler's tree of SidingLine.java shows them, each told with its number. */
public final class LanguageTest {
  private static final Path SOURCE = Path.of("src/main/java/SidingLine.java");
  private static final int MOST_CLASSES = 12, MOST_FIELDS = 20, MOST_LINES = 60, MOST_PARAMETERS = 7, DEEPEST = 8;

  /** What of the library the class uses now; another function that rule 4 allows is added here when it is used. */
  private static final Set<String> LIBRARY = Set.of("java.util.Arrays.fill", "java.lang.System.arraycopy",
      "java.lang.Math.min", "java.lang.Math.max");
  private static final Set<String> TYPES = Set.of("int", "long", "short", "byte", "char", "boolean", "void");

  private static final Set<Tree.Kind> RULE_2 = EnumSet.of(Tree.Kind.LAMBDA_EXPRESSION, Tree.Kind.MEMBER_REFERENCE);
  private static final Set<Tree.Kind> RULE_6 = EnumSet.of(Tree.Kind.THROW, Tree.Kind.TRY, Tree.Kind.CATCH,
      Tree.Kind.SYNCHRONIZED, Tree.Kind.ASSERT);

  private static final List<String> wrong = new ArrayList<>();

  private static void must(boolean stands, int rule, String what) {
    if (!stands) wrong.add("rule " + rule + ": " + what);
  }

  public static void main(String[] args) throws Exception {
    JavaCompiler compiler = ToolProvider.getSystemJavaCompiler();
    try (var files = compiler.getStandardFileManager(null, null, null)) {
      var units = files.getJavaFileObjects(SOURCE);
      JavacTask task = (JavacTask) compiler.getTask(null, files, null, List.of("-proc:none"), null, units);
      CompilationUnitTree unit = task.parse().iterator().next();
      task.analyze();
      Reader reader = new Reader(unit, Trees.instance(task));
      reader.scan(unit, null);
      reader.checkDepth();
      must(unit.getPackageName() == null, 1, "no package line");
      must(reader.classes <= MOST_CLASSES, 11, "at most " + MOST_CLASSES + " classes, not " + reader.classes);
      for (ImportTree row : unit.getImports()) {
        must(row.getQualifiedIdentifier().toString().equals("java.util.Arrays"), 4, "import of " + row);
      }
      must(reader.calls > 100, 4, "the calls were read");
    }
    wrong.forEach(System.out::println);
    System.out.println(wrong.isEmpty() ? "the language is kept" : wrong.size() + " rules are broken");
    if (!wrong.isEmpty()) System.exit(1);
  }

  private static final class Reader extends TreePathScanner<Void, Void> {
    private final CompilationUnitTree unit;
    private final Trees trees;
    private final Map<String, Set<String>> callees = new HashMap<>();
    private String inside = "";
    private boolean insideConstructor = false;
    int classes = 0;
    int calls = 0;

    Reader(CompilationUnitTree unit, Trees trees) {
      this.unit = unit;
      this.trees = trees;
    }

    private String at(Tree tree) {
      return "line " + lineOf(trees.getSourcePositions().getStartPosition(unit, tree));
    }

    private long lineOf(long position) {
      LineMap lines = unit.getLineMap();
      return position < 0 ? 0 : lines.getLineNumber(position);
    }

    private Element elementOf(Tree tree) {
      return trees.getElement(new TreePath(getCurrentPath(), tree));
    }

    @Override
    public Void scan(Tree tree, Void none) {
      if (tree != null) {
        must(!RULE_2.contains(tree.getKind()), 2, tree.getKind() + " in " + at(tree));
        must(!RULE_6.contains(tree.getKind()), 6, tree.getKind() + " in " + at(tree));
      }
      return super.scan(tree, none);
    }

    @Override
    public Void visitClass(ClassTree tree, Void none) {
      classes++;
      boolean isOuter = getCurrentPath().getParentPath().getLeaf() instanceof CompilationUnitTree;
      boolean isNested = getCurrentPath().getParentPath().getLeaf() instanceof ClassTree;
      Set<Modifier> flags = tree.getModifiers().getFlags();
      must(isOuter || isNested, 2, "a local class in " + at(tree));
      must(isOuter || flags.contains(Modifier.STATIC) && !flags.contains(Modifier.PUBLIC), 1, at(tree));
      int fields = 0;
      for (Tree member : tree.getMembers()) {
        must(member.getKind() != Tree.Kind.BLOCK, 5, "an initialiser block in " + at(member));
        if (member instanceof VariableTree field) fields += checkField(field, isOuter) ? 1 : 0;
      }
      must(fields <= MOST_FIELDS, 11, tree.getSimpleName() + " has " + fields + " fields");
      return super.visitClass(tree, none);
    }

    /** Whether it counts, as one that is no constant. */
    private boolean checkField(VariableTree field, boolean isOuter) {
      Set<Modifier> flags = field.getModifiers().getFlags();
      boolean isStatic = flags.contains(Modifier.STATIC);
      must(!isStatic || flags.contains(Modifier.FINAL), 5, "a static field that is not final in " + at(field));
      must(!isOuter || flags.contains(Modifier.PRIVATE), 1, "a field that is not private in " + at(field));
      String type = field.getType().toString();
      must(!isStatic || Set.of("int", "long", "boolean", "char", "String", "int[]").contains(type), 5, at(field));
      boolean isWrittenOut = field.getInitializer() instanceof NewArrayTree row && row.getInitializers() != null;
      must(!isStatic || !type.endsWith("[]") || isWrittenOut, 5, "a row that is not written out in " + at(field));
      return !isStatic;
    }

    @Override
    public Void visitVariable(VariableTree tree, Void none) {
      TypeMirror type = trees.getTypeMirror(getCurrentPath());
      String name = type == null ? "" : type.toString();
      String plain = name.replace("[]", "");
      must(TYPES.contains(plain) || plain.startsWith("SidingLine"), 3, "the type " + name + " in " + at(tree));
      return super.visitVariable(tree, none);
    }

    @Override
    public Void visitMethod(MethodTree tree, Void none) {
      ExecutableElement method = (ExecutableElement) trees.getElement(getCurrentPath());
      String outer = inside;
      boolean outerIsConstructor = insideConstructor;
      inside = nameOf(method);
      insideConstructor = tree.getReturnType() == null;
      callees.putIfAbsent(inside, new TreeSet<>());
      SourcePositions positions = trees.getSourcePositions();
      long lines = 1 + lineOf(positions.getEndPosition(unit, tree)) - lineOf(positions.getStartPosition(unit, tree));
      must(lines <= MOST_LINES, 11, inside + " has " + lines + " lines");
      must(tree.getParameters().size() <= MOST_PARAMETERS, 11, inside + " takes " + tree.getParameters().size());
      must(tree.getThrows().isEmpty(), 6, inside + " throws");
      super.visitMethod(tree, none);
      inside = outer;
      insideConstructor = outerIsConstructor;
      return null;
    }

    private static String nameOf(ExecutableElement method) {
      return method.getEnclosingElement() + "." + method.getSimpleName();
    }

    @Override
    public Void visitMethodInvocation(MethodInvocationTree tree, Void none) {
      calls++;
      Element called = elementOf(tree.getMethodSelect());
      String name = called instanceof ExecutableElement method ? nameOf(method) : "?";
      boolean isOwn = name.startsWith("SidingLine.");
      boolean isSuper = tree.getMethodSelect().toString().equals("super");
      must(isOwn || isSuper || LIBRARY.contains(name), 4, name + " in " + at(tree));
      must(!isOwn || !insideConstructor, 12, "a constructor calls " + name + " in " + at(tree));
      if (isOwn) callees.computeIfAbsent(inside, key -> new TreeSet<>()).add(name);
      return super.visitMethodInvocation(tree, none);
    }

    @Override
    public Void visitNewClass(NewClassTree tree, Void none) {
      must(tree.getClassBody() == null, 2, "an anonymous class in " + at(tree));
      must(insideConstructor || inside.isEmpty(), 12, "a call makes an object in " + at(tree));
      return super.visitNewClass(tree, none);
    }

    @Override
    public Void visitNewArray(NewArrayTree tree, Void none) {
      must(insideConstructor || inside.isEmpty(), 12, "a call makes a row in " + at(tree));
      must(tree.getDimensions().size() < 2, 3, "a row of rows in " + at(tree));
      return super.visitNewArray(tree, none);
    }

    @Override
    public Void visitTypeCast(TypeCastTree tree, Void none) {
      must(TYPES.contains(tree.getType().toString()), 6, "a cast of an object in " + at(tree));
      return super.visitTypeCast(tree, none);
    }

    @Override
    public Void visitWhileLoop(WhileLoopTree tree, Void none) {
      must(false, 9, "a loop without a counter in " + at(tree));
      return super.visitWhileLoop(tree, none);
    }

    @Override
    public Void visitDoWhileLoop(DoWhileLoopTree tree, Void none) {
      must(false, 9, "a loop without a counter in " + at(tree));
      return super.visitDoWhileLoop(tree, none);
    }

    @Override
    public Void visitBinary(BinaryTree tree, Void none) {
      boolean divides = tree.getKind() == Tree.Kind.DIVIDE || tree.getKind() == Tree.Kind.REMAINDER;
      must(!divides || isConstant(tree.getRightOperand()), 7, "a divisor that is no constant in " + at(tree));
      TypeMirror type = trees.getTypeMirror(getCurrentPath());
      must(type == null || type.getKind() != TypeKind.DECLARED, 10, "texts joined by + in " + at(tree));
      return super.visitBinary(tree, none);
    }

    @Override
    public Void visitCompoundAssignment(CompoundAssignmentTree tree, Void none) {
      boolean divides = tree.getKind() == Tree.Kind.DIVIDE_ASSIGNMENT
          || tree.getKind() == Tree.Kind.REMAINDER_ASSIGNMENT;
      must(!divides || isConstant(tree.getExpression()), 7, "a divisor that is no constant in " + at(tree));
      return super.visitCompoundAssignment(tree, none);
    }

    /** Nulls make guards needful; the class has none, and this keeps it so. */
    @Override
    public Void visitAssignment(AssignmentTree tree, Void none) {
      must(tree.getExpression().getKind() != Tree.Kind.NULL_LITERAL, 7, "a null in " + at(tree));
      return super.visitAssignment(tree, none);
    }

    private boolean isConstant(Tree tree) {
      return tree.getKind() == Tree.Kind.INT_LITERAL
          || elementOf(tree) instanceof javax.lang.model.element.VariableElement field
              && field.getConstantValue() instanceof Integer value && value != 0;
    }

    /** Calls of the face, each counted as one, with all that stand open behind it. */
    void checkDepth() {
      for (String name : callees.keySet()) {
        boolean isOfFace = name.lastIndexOf('.') == "SidingLine".length();
        if (!isOfFace) continue;
        int depth = depthOf(name, new HashSet<>());
        must(depth <= DEEPEST, 11, name + " goes " + depth + " deep");
      }
    }

    private int depthOf(String name, Set<String> open) {
      if (!open.add(name)) {
        must(false, 8, name + " calls itself");
        return 0;
      }
      int deepest = 0;
      for (String next : callees.getOrDefault(name, Set.of())) deepest = Math.max(deepest, depthOf(next, open));
      open.remove(name);
      return 1 + deepest;
    }
  }
}
