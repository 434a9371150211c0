import com.sun.source.tree.BinaryTree;
import com.sun.source.tree.BlockTree;
import com.sun.source.tree.ClassTree;
import com.sun.source.tree.CompilationUnitTree;
import com.sun.source.tree.CompoundAssignmentTree;
import com.sun.source.tree.DoWhileLoopTree;
import com.sun.source.tree.ExpressionTree;
import com.sun.source.tree.ForLoopTree;
import com.sun.source.tree.LiteralTree;
import com.sun.source.tree.MethodInvocationTree;
import com.sun.source.tree.MethodTree;
import com.sun.source.tree.NewArrayTree;
import com.sun.source.tree.NewClassTree;
import com.sun.source.tree.Tree;
import com.sun.source.tree.TypeCastTree;
import com.sun.source.tree.VariableTree;
import com.sun.source.tree.WhileLoopTree;
import com.sun.source.util.JavacTask;
import com.sun.source.util.SourcePositions;
import com.sun.source.util.TreePath;
import com.sun.source.util.TreePathScanner;
import com.sun.source.util.Trees;
import java.io.File;
import java.io.IOException;
import java.util.HashMap;
import java.util.HashSet;
import java.util.List;
import java.util.Map;
import java.util.Set;
import javax.lang.model.element.Element;
import javax.lang.model.element.ElementKind;
import javax.lang.model.element.Modifier;
import javax.lang.model.element.TypeElement;
import javax.lang.model.element.VariableElement;
import javax.lang.model.type.ArrayType;
import javax.lang.model.type.TypeKind;
import javax.lang.model.type.TypeMirror;
import javax.tools.JavaCompiler;
import javax.tools.StandardJavaFileManager;
import javax.tools.ToolProvider;

/**
 * The class keeps to ../shared/LANGUAGE.md, as far as its text can tell (of rules 1, 7 and 13 also in
 * Face and AnyCalls). Where the class asks less of Java than the rules leave to it, just that is let
 * through here: what a later session asks more must be looked up there first, then here.
 */
public final class Language extends TreePathScanner<Void, Void> {
  private static final int MOST_PARAMETERS = 7, MOST_LINES = 60, MOST_DEEP = 8, MOST_CLASSES = 12, MOST_FIELDS = 20;

  private static final Set<String> LIBRARY = Set.of("String.length", "String.charAt", "Integer.bitCount", "Math.abs",
      "Math.min", "Math.max", "Math.floorMod", "System.arraycopy", "Object.<init>");
  private static final Set<TypeKind> NUMBERS = Set.of(TypeKind.INT, TypeKind.LONG, TypeKind.BOOLEAN);
  /** Rules 2, 6, 10: what stands nowhere in it. */
  private static final Set<Tree.Kind> NOWHERE = Set.of(Tree.Kind.LAMBDA_EXPRESSION, Tree.Kind.MEMBER_REFERENCE,
      Tree.Kind.THROW, Tree.Kind.TRY, Tree.Kind.CATCH, Tree.Kind.SYNCHRONIZED, Tree.Kind.ASSERT, Tree.Kind.INSTANCE_OF,
      Tree.Kind.SWITCH_EXPRESSION, Tree.Kind.IMPORT, Tree.Kind.PACKAGE, Tree.Kind.ANNOTATION, Tree.Kind.ENUM,
      Tree.Kind.INTERFACE, Tree.Kind.RECORD, Tree.Kind.DOUBLE_LITERAL, Tree.Kind.FLOAT_LITERAL, Tree.Kind.NULL_LITERAL);

  private final Trees trees;
  private final CompilationUnitTree unit;
  private final Map<Element, Set<Element>> calls = new HashMap<>();
  private final Set<Element> loopsFromOne = new HashSet<>();
  private Element method;
  private int classes;
  private int wrong;

  private Language(Trees trees, CompilationUnitTree unit) {
    this.trees = trees;
    this.unit = unit;
  }

  private void rule(int number, boolean holds, Tree at, String what) {
    if (holds) return;
    wrong++;
    long start = at == null ? 0 : trees.getSourcePositions().getStartPosition(unit, at);
    long line = unit.getLineMap().getLineNumber(Math.max(0, start));
    System.out.println("rule " + number + ", line " + line + ": " + what);
  }

  private Element element() {
    return trees.getElement(getCurrentPath());
  }

  private TypeMirror typeOf(Tree tree) {
    return trees.getTypeMirror(new TreePath(getCurrentPath(), tree));
  }

  private static boolean isOwn(Element e) {
    for (Element at = e; at != null; at = at.getEnclosingElement()) {
      if (at.getSimpleName().contentEquals("ShameAngles")) return true;
    }
    return false;
  }

  private static boolean isText(TypeMirror type) {
    return type != null && type.toString().equals("java.lang.String");
  }

  // ---- rules 2, 3, 5, 11: classes and their members

  @Override
  public Void scan(Tree tree, Void none) {
    if (tree != null) rule(2, !NOWHERE.contains(tree.getKind()), tree, tree.getKind() + " stands there");
    return super.scan(tree, none);
  }

  @Override
  public Void visitClass(ClassTree tree, Void none) {
    classes++;
    Tree around = getCurrentPath().getParentPath().getLeaf();
    Set<Modifier> flags = tree.getModifiers().getFlags();
    if (around != unit) {
      rule(2, around instanceof ClassTree, tree, "a local class");
      rule(2, flags.contains(Modifier.STATIC), tree, "a class inside that is not static");
      rule(1, !flags.contains(Modifier.PUBLIC) && !flags.contains(Modifier.PROTECTED), tree, "a class inside, too open");
    }
    int fields = 0;
    for (Tree member : tree.getMembers()) {
      rule(5, !(member instanceof BlockTree), member, "an initialiser block");
      if (member instanceof VariableTree && !isStatic((VariableTree) member)) fields++;
    }
    rule(11, fields <= MOST_FIELDS, tree, fields + " fields");
    return super.visitClass(tree, none);
  }

  private static boolean isStatic(VariableTree tree) {
    return tree.getModifiers().getFlags().contains(Modifier.STATIC);
  }

  private boolean allowed(TypeMirror type, boolean arrays) {
    if (type.getKind() == TypeKind.ARRAY && arrays) return allowed(((ArrayType) type).getComponentType(), false);
    if (type.getKind() == TypeKind.DECLARED) return isText(type) || isOwn(elementOf(type));
    return NUMBERS.contains(type.getKind());
  }

  private static Element elementOf(TypeMirror type) {
    return ((javax.lang.model.type.DeclaredType) type).asElement();
  }

  @Override
  public Void visitVariable(VariableTree tree, Void none) {
    TypeMirror type = element().asType();
    rule(3, allowed(type, true), tree, "a variable of type " + type);
    if (isStatic(tree)) {
      boolean constant = ((VariableElement) element()).getConstantValue() != null;
      boolean writtenOut = type.getKind() == TypeKind.ARRAY && tree.getInitializer() instanceof NewArrayTree
          && ((NewArrayTree) tree.getInitializer()).getInitializers() != null;
      rule(5, tree.getModifiers().getFlags().contains(Modifier.FINAL), tree, "a static field that is not final");
      rule(5, constant || writtenOut, tree, "a static field that is no constant");
    }
    return super.visitVariable(tree, none);
  }

  @Override
  public Void visitMethod(MethodTree tree, Void none) {
    method = element();
    calls.put(method, new HashSet<>());
    String name = tree.getName().toString();
    rule(6, !Set.of("equals", "hashCode", "toString").contains(name), tree, name);
    rule(11, tree.getParameters().size() <= MOST_PARAMETERS, tree, name + " takes too many");
    SourcePositions positions = trees.getSourcePositions();
    long first = unit.getLineMap().getLineNumber(Math.max(0, positions.getStartPosition(unit, tree)));
    long last = unit.getLineMap().getLineNumber(Math.max(0, positions.getEndPosition(unit, tree)));
    rule(11, last - first < MOST_LINES, tree, name + " has " + (last - first + 1) + " lines");
    super.visitMethod(tree, none);
    method = null;
    return null;
  }

  // ---- rules 4, 12, 13: who is called, what is made

  private void called(Element callee, Tree tree) {
    if (isOwn(callee)) {
      if (method != null) calls.get(method).add(callee);
      return;
    }
    String name = callee.getEnclosingElement().getSimpleName() + "." + callee.getSimpleName();
    boolean base = ((TypeElement) callee.getEnclosingElement()).getQualifiedName().toString().startsWith("java.lang.");
    rule(4, base && LIBRARY.contains(name), tree, name + " is called");
  }

  @Override
  public Void visitMethodInvocation(MethodInvocationTree tree, Void none) {
    called(element(), tree);
    return super.visitMethodInvocation(tree, none);
  }

  /** The class's own promise in NOTES.md and README.md, stricter than rule 12: no call makes anything. */
  private void made(Tree tree) {
    rule(12, method == null || method.getKind() == ElementKind.CONSTRUCTOR, tree, "made by a call");
  }

  @Override
  public Void visitNewClass(NewClassTree tree, Void none) {
    made(tree);
    rule(2, tree.getClassBody() == null, tree, "an anonymous class");
    called(element(), tree);
    return super.visitNewClass(tree, none);
  }

  @Override
  public Void visitNewArray(NewArrayTree tree, Void none) {
    made(tree);
    rule(3, tree.getDimensions().size() <= 1, tree, "an array of arrays");
    return super.visitNewArray(tree, none);
  }

  // ---- rules 3, 6, 7, 10: texts, quotients, casts

  @Override
  public Void visitLiteral(LiteralTree tree, Void none) {
    String told = tree.getValue() instanceof String || tree.getValue() instanceof Character ? "" + tree.getValue() : "";
    rule(4, told.chars().allMatch(c -> c >= 1 && c <= 127), tree, "a sign beyond 1 .. 127");
    return super.visitLiteral(tree, none);
  }

  @Override
  public Void visitBinary(BinaryTree tree, Void none) {
    boolean texts = isText(typeOf(tree.getLeftOperand())) || isText(typeOf(tree.getRightOperand()));
    rule(10, !texts, tree, tree.getKind() + " of texts");
    if (tree.getKind() == Tree.Kind.DIVIDE || tree.getKind() == Tree.Kind.REMAINDER) divides(tree, tree.getRightOperand());
    return super.visitBinary(tree, none);
  }

  @Override
  public Void visitCompoundAssignment(CompoundAssignmentTree tree, Void none) {
    rule(10, !isText(typeOf(tree.getVariable())), tree, "a text joined by +=");
    boolean quotient = tree.getKind() == Tree.Kind.DIVIDE_ASSIGNMENT || tree.getKind() == Tree.Kind.REMAINDER_ASSIGNMENT;
    if (quotient) divides(tree, tree.getExpression());
    return super.visitCompoundAssignment(tree, none);
  }

  private void divides(Tree tree, ExpressionTree divisor) {
    Element named = trees.getElement(new TreePath(getCurrentPath(), divisor));
    Object value = divisor instanceof LiteralTree ? ((LiteralTree) divisor).getValue()
        : named instanceof VariableElement ? ((VariableElement) named).getConstantValue() : null;
    boolean notNought = value instanceof Number && ((Number) value).longValue() != 0;
    rule(7, notNought || loopsFromOne.contains(named), tree, "a divisor that may be 0");
  }

  @Override
  public Void visitTypeCast(TypeCastTree tree, Void none) {
    rule(6, typeOf(tree.getType()).getKind().isPrimitive(), tree, "a cast of an object");
    return super.visitTypeCast(tree, none);
  }

  // ---- rule 9: loops

  private void ends(Tree tree, ExpressionTree condition) {
    rule(9, condition != null && !condition.toString().contains("true"), tree, "a loop without an end");
  }

  @Override
  public Void visitForLoop(ForLoopTree tree, Void none) {
    ends(tree, tree.getCondition());
    if (tree.getInitializer().size() == 1 && tree.getInitializer().get(0) instanceof VariableTree) {
      VariableTree counter = (VariableTree) tree.getInitializer().get(0);
      boolean fromOne = counter.getInitializer() != null && counter.getInitializer().toString().equals("1");
      boolean rises = tree.getUpdate().toString().equals(counter.getName() + "++;");
      if (fromOne && rises) loopsFromOne.add(trees.getElement(new TreePath(getCurrentPath(), counter)));
    }
    return super.visitForLoop(tree, none);
  }

  @Override
  public Void visitWhileLoop(WhileLoopTree tree, Void none) {
    ends(tree, tree.getCondition());
    return super.visitWhileLoop(tree, none);
  }

  @Override
  public Void visitDoWhileLoop(DoWhileLoopTree tree, Void none) {
    ends(tree, tree.getCondition());
    return super.visitDoWhileLoop(tree, none);
  }

  // ---- rules 8, 11: how deep

  private void recursion(Element caller) {
    if (!calls.get(caller).contains(caller)) return;
    Set<Modifier> flags = caller.getModifiers();
    boolean shown = flags.contains(Modifier.PRIVATE) && flags.contains(Modifier.STATIC);
    boolean carries = ((javax.lang.model.element.ExecutableElement) caller).getParameters().stream()
        .anyMatch(p -> p.asType().getKind() == TypeKind.INT);
    rule(8, shown && carries, trees.getTree(caller), caller + " calls itself");
  }

  /** How many calls stand open from here, itself among them; one that calls itself counts once. */
  private int deep(Element caller, Set<Element> open) {
    if (!open.add(caller)) {
      rule(8, false, trees.getTree(caller), caller + " comes back to itself by others");
      return 1;
    }
    int most = 0;
    for (Element callee : calls.getOrDefault(caller, Set.of())) {
      if (callee != caller) most = Math.max(most, deep(callee, open));
    }
    open.remove(caller);
    return most + 1;
  }

  private void whole() {
    rule(1, unit.getTypeDecls().size() == 1, unit, "more than one class outside");
    rule(11, classes <= MOST_CLASSES, unit, classes + " classes");
    for (Element caller : List.copyOf(calls.keySet())) {
      recursion(caller);
      int deep = deep(caller, new HashSet<>());
      rule(11, deep <= MOST_DEEP, trees.getTree(caller), caller + " goes " + deep + " deep");
    }
  }

  public static void main(String[] args) throws IOException {
    JavaCompiler javac = ToolProvider.getSystemJavaCompiler();
    StandardJavaFileManager files = javac.getStandardFileManager(null, null, null);
    JavacTask task = (JavacTask) javac.getTask(null, files, null, List.of("--release", "17"), null,
        files.getJavaFileObjects(new File(args.length > 0 ? args[0] : "src/main/java/ShameAngles.java")));
    CompilationUnitTree unit = task.parse().iterator().next();
    task.analyze();
    Language language = new Language(Trees.instance(task), unit);
    language.scan(unit, null);
    language.whole();
    System.out.println(language.wrong == 0 ? "the language is as due" : language.wrong + " wrong");
    if (language.wrong != 0) System.exit(1);
  }
}
