import com.sun.source.tree.ArrayAccessTree;
import com.sun.source.tree.AssertTree;
import com.sun.source.tree.BinaryTree;
import com.sun.source.tree.ClassTree;
import com.sun.source.tree.CompilationUnitTree;
import com.sun.source.tree.CompoundAssignmentTree;
import com.sun.source.tree.DoWhileLoopTree;
import com.sun.source.tree.ExpressionTree;
import com.sun.source.tree.ForLoopTree;
import com.sun.source.tree.IdentifierTree;
import com.sun.source.tree.ImportTree;
import com.sun.source.tree.LambdaExpressionTree;
import com.sun.source.tree.LiteralTree;
import com.sun.source.tree.MemberReferenceTree;
import com.sun.source.tree.MemberSelectTree;
import com.sun.source.tree.MethodInvocationTree;
import com.sun.source.tree.MethodTree;
import com.sun.source.tree.NewArrayTree;
import com.sun.source.tree.NewClassTree;
import com.sun.source.tree.SynchronizedTree;
import com.sun.source.tree.ThrowTree;
import com.sun.source.tree.Tree;
import com.sun.source.tree.TryTree;
import com.sun.source.tree.TypeCastTree;
import com.sun.source.tree.VariableTree;
import com.sun.source.tree.WhileLoopTree;
import com.sun.source.util.JavacTask;
import com.sun.source.util.SourcePositions;
import com.sun.source.util.TreeScanner;
import com.sun.source.util.Trees;
import java.nio.charset.StandardCharsets;
import java.nio.file.Files;
import java.nio.file.Path;
import java.util.Set;
import java.util.regex.Pattern;
import javax.lang.model.element.Modifier;
import javax.tools.JavaCompiler;
import javax.tools.StandardJavaFileManager;
import javax.tools.ToolProvider;

/** What of LANGUAGE.md can be read from the source, and that no call makes rows of its own. */
public final class LanguageTest {
  private static final Path SOURCE = Path.of("src", "main", "java", "HullyardSurveys.java");
  private static final Set<String> EXCEPTIONS =
      Set.of(
          "IllegalStateException", "IllegalArgumentException", "IndexOutOfBoundsException",
          "NoSuchElementException");
  private static final Set<String> MATH = Set.of("max", "min", "abs", "floorDiv");
  private static final Set<String> CASTS = Set.of("int", "long", "float", "double");
  private static final Set<String> STRANGERS =
      Set.of(
          "System", "Arrays", "Integer", "Long", "Objects", "Collections", "Thread", "Character",
          "Double", "Float", "Boolean", "String", "StringBuilder", "Runtime", "StrictMath");

  private final Due due = new Due();

  public static void main(String[] args) throws Exception {
    LanguageTest test = new LanguageTest();
    test.signs();
    test.source();
    test.due.end();
  }

  private void signs() throws Exception {
    String text = Files.readString(SOURCE, StandardCharsets.ISO_8859_1);
    int strange = 0;
    for (int i = 0; i < text.length(); i++) {
      if (text.charAt(i) < 1 || text.charAt(i) > 126) {
        strange++;
      }
    }
    due.same("strange signs in the source", strange, 0);
  }

  /** Reads the source as it is written first; whom a call calls is known only behind that. */
  private void source() throws Exception {
    JavaCompiler compiler = ToolProvider.getSystemJavaCompiler();
    try (StandardJavaFileManager files = compiler.getStandardFileManager(null, null, null)) {
      JavacTask task =
          (JavacTask)
              compiler.getTask(null, files, null, null, null, files.getJavaFileObjects(SOURCE));
      Trees trees = Trees.instance(task);
      SourcePositions positions = trees.getSourcePositions();
      Iterable<? extends CompilationUnitTree> units = task.parse();
      for (CompilationUnitTree unit : units) {
        new Reader(unit, positions).scan(unit, null);
      }
      task.analyze();
      for (CompilationUnitTree unit : units) {
        callsOf(unit, trees);
      }
    }
  }

  private void callsOf(CompilationUnitTree unit, Trees trees) {
    CallGraph graph = new CallGraph(trees);
    graph.scan(unit, null);
    int depth = graph.depth();
    due.same("rule 11, " + depth + " calls deep", depth >= 2 && depth <= 8, true);
    due.sameText("rule 8, calls that lead back to themselves", graph.comesBack(), "");
  }

  /** Reads the source and tells what the rules do not allow. */
  private final class Reader extends TreeScanner<Void, Void> {
    private final CompilationUnitTree unit;
    private final SourcePositions positions;
    private int classes = 0;
    private MethodTree method = null;
    private boolean isThrown = false;

    Reader(CompilationUnitTree unit, SourcePositions positions) {
      this.unit = unit;
      this.positions = positions;
    }

    private long lineOf(long position) {
      return unit.getLineMap().getLineNumber(position);
    }

    private void allow(Tree tree, String rule, boolean isAllowed) {
      long line = lineOf(positions.getStartPosition(unit, tree));
      due.same("line " + line + ": " + rule, isAllowed, true);
    }

    private boolean isInCall() {
      return method != null && !method.getName().contentEquals("<init>");
    }

    @Override
    public Void visitImport(ImportTree tree, Void none) {
      String name = tree.getQualifiedIdentifier().toString();
      allow(tree, "rule 4, an import", name.equals("java.util.NoSuchElementException"));
      return null;
    }

    @Override
    public Void visitClass(ClassTree tree, Void none) {
      classes++;
      allow(tree, "rule 11, classes", classes <= 12);
      int fields = 0;
      for (Tree member : tree.getMembers()) {
        if (member instanceof VariableTree) {
          VariableTree field = (VariableTree) member;
          Set<Modifier> flags = field.getModifiers().getFlags();
          boolean isStatic = flags.contains(Modifier.STATIC);
          String type = field.getType().toString();
          allow(field, "rule 5, a static field",
              !isStatic || (flags.contains(Modifier.FINAL) && type.equals("int")));
          fields += isStatic ? 0 : 1;
        }
        boolean isPlain =
            member.getKind() == Tree.Kind.VARIABLE
                || member.getKind() == Tree.Kind.METHOD
                || member.getKind() == Tree.Kind.CLASS;
        allow(member, "rule 5, a member", isPlain);
      }
      allow(tree, "rule 11, fields", fields <= 20);
      return super.visitClass(tree, none);
    }

    @Override
    public Void visitMethod(MethodTree tree, Void none) {
      MethodTree outer = method;
      method = tree;
      allow(tree, "rule 11, parameters", tree.getParameters().size() <= 7);
      long first = lineOf(positions.getStartPosition(unit, tree));
      long last = lineOf(positions.getEndPosition(unit, tree));
      allow(tree, "rule 11, lines of a method", last - first < 60);
      super.visitMethod(tree, none);
      method = outer;
      return null;
    }

    @Override
    public Void visitThrow(ThrowTree tree, Void none) {
      ExpressionTree thrown = tree.getExpression();
      boolean isNew = thrown instanceof NewClassTree;
      allow(tree, "rule 6, a throw", isNew && isWritten((NewClassTree) thrown));
      allow(tree, "rule 6, a throw in a constructor", isInCall());
      isThrown = true;
      super.visitThrow(tree, none);
      isThrown = false;
      return null;
    }

    private boolean isWritten(NewClassTree thrown) {
      boolean isText = true;
      for (ExpressionTree text : thrown.getArguments()) {
        isText = isText && text instanceof LiteralTree;
      }
      return EXCEPTIONS.contains(thrown.getIdentifier().toString())
          && thrown.getArguments().size() <= 1
          && isText;
    }

    @Override
    public Void visitNewClass(NewClassTree tree, Void none) {
      allow(tree, "rule 12, an object made by a call", isThrown || !isInCall());
      allow(tree, "rule 2, an anonymous class", tree.getClassBody() == null);
      return super.visitNewClass(tree, none);
    }

    @Override
    public Void visitNewArray(NewArrayTree tree, Void none) {
      allow(tree, "rule 12, an array made by a call", !isInCall());
      return super.visitNewArray(tree, none);
    }

    @Override
    public Void visitMethodInvocation(MethodInvocationTree tree, Void none) {
      if (tree.getMethodSelect() instanceof MemberSelectTree) {
        MemberSelectTree select = (MemberSelectTree) tree.getMethodSelect();
        if (select.getExpression().toString().equals("Math")) {
          allow(tree, "rule 4, Math", MATH.contains(select.getIdentifier().toString()));
        }
        if (select.getIdentifier().contentEquals("floorDiv")) {
          divides(tree, tree.getArguments().get(1));
        }
      }
      return super.visitMethodInvocation(tree, none);
    }

    @Override
    public Void visitIdentifier(IdentifierTree tree, Void none) {
      allow(tree, "rule 4, the library", !STRANGERS.contains(tree.getName().toString()));
      return super.visitIdentifier(tree, none);
    }

    @Override
    public Void visitTypeCast(TypeCastTree tree, Void none) {
      allow(tree, "rule 6, a cast", CASTS.contains(tree.getType().toString()));
      return super.visitTypeCast(tree, none);
    }

    @Override
    public Void visitBinary(BinaryTree tree, Void none) {
      boolean isText =
          tree.getLeftOperand().getKind() == Tree.Kind.STRING_LITERAL
              || tree.getRightOperand().getKind() == Tree.Kind.STRING_LITERAL;
      allow(tree, "rule 10, texts joined", !isText);
      if (tree.getKind() == Tree.Kind.DIVIDE || tree.getKind() == Tree.Kind.REMAINDER) {
        divides(tree, tree.getRightOperand());
      }
      return super.visitBinary(tree, none);
    }

    @Override
    public Void visitCompoundAssignment(CompoundAssignmentTree tree, Void none) {
      boolean isSum =
          tree.getKind() == Tree.Kind.PLUS_ASSIGNMENT
              || tree.getKind() == Tree.Kind.MINUS_ASSIGNMENT;
      allow(tree, "rule 7, a divisor that is not looked at", isSum);
      return super.visitCompoundAssignment(tree, none);
    }

    /** The divisor must be a written number, or held against 0 in the same method. */
    private void divides(Tree tree, ExpressionTree divisor) {
      ExpressionTree plain = divisor;
      while (plain instanceof TypeCastTree) {
        plain = ((TypeCastTree) plain).getExpression();
      }
      boolean isLookedAt = plain instanceof LiteralTree && !plain.toString().equals("0");
      for (String against : new String[] {" != 0", " == 0", " > 0", " <= 0"}) {
        isLookedAt = isLookedAt || (method != null && stands(plain + against));
      }
      allow(tree, "rule 7, a divisor that is not looked at", isLookedAt);
    }

    private boolean stands(String text) {
      Pattern whole = Pattern.compile("(?<![\\w.])" + Pattern.quote(text) + "\\b");
      return whole.matcher(method.toString()).find();
    }

    @Override
    public Void visitArrayAccess(ArrayAccessTree tree, Void none) {
      String bound = tree.getIndex() + " < " + tree.getExpression() + ".length";
      allow(tree, "rule 7, an index that is not looked at", method != null && stands(bound));
      return super.visitArrayAccess(tree, none);
    }

    @Override
    public Void visitForLoop(ForLoopTree tree, Void none) {
      ends(tree, tree.getCondition());
      return super.visitForLoop(tree, none);
    }

    @Override
    public Void visitWhileLoop(WhileLoopTree tree, Void none) {
      ends(tree, tree.getCondition());
      return super.visitWhileLoop(tree, none);
    }

    @Override
    public Void visitDoWhileLoop(DoWhileLoopTree tree, Void none) {
      ends(tree, tree.getCondition());
      return super.visitDoWhileLoop(tree, none);
    }

    /** A counter against a bound must stand in the head of a loop. */
    private void ends(Tree loop, ExpressionTree condition) {
      boolean hasBound = condition != null && condition.toString().matches(".* [<>]=? .*");
      allow(loop, "rule 9, a loop without a bound", hasBound);
    }

    @Override
    public Void visitLambdaExpression(LambdaExpressionTree tree, Void none) {
      allow(tree, "rule 2, a lambda", false);
      return null;
    }

    @Override
    public Void visitMemberReference(MemberReferenceTree tree, Void none) {
      allow(tree, "rule 2, a method reference", false);
      return null;
    }

    @Override
    public Void visitTry(TryTree tree, Void none) {
      allow(tree, "nothing is caught here", false);
      return null;
    }

    @Override
    public Void visitSynchronized(SynchronizedTree tree, Void none) {
      allow(tree, "rule 6, synchronized", false);
      return null;
    }

    @Override
    public Void visitAssert(AssertTree tree, Void none) {
      allow(tree, "rule 6, assert", false);
      return null;
    }
  }
}
