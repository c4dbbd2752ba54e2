import com.sun.source.tree.AnnotationTree;
import com.sun.source.tree.AssertTree;
import com.sun.source.tree.BinaryTree;
import com.sun.source.tree.BlockTree;
import com.sun.source.tree.CatchTree;
import com.sun.source.tree.ClassTree;
import com.sun.source.tree.CompilationUnitTree;
import com.sun.source.tree.CompoundAssignmentTree;
import com.sun.source.tree.DoWhileLoopTree;
import com.sun.source.tree.ExpressionTree;
import com.sun.source.tree.ForLoopTree;
import com.sun.source.tree.IdentifierTree;
import com.sun.source.tree.LambdaExpressionTree;
import com.sun.source.tree.LiteralTree;
import com.sun.source.tree.MemberReferenceTree;
import com.sun.source.tree.MemberSelectTree;
import com.sun.source.tree.MethodInvocationTree;
import com.sun.source.tree.MethodTree;
import com.sun.source.tree.NewArrayTree;
import com.sun.source.tree.NewClassTree;
import com.sun.source.tree.SynchronizedTree;
import com.sun.source.tree.ThrowTree;
import com.sun.source.tree.Tree;
import com.sun.source.tree.TryTree;
import com.sun.source.tree.VariableTree;
import com.sun.source.tree.WhileLoopTree;
import com.sun.source.util.JavacTask;
import com.sun.source.util.TreePath;
import com.sun.source.util.TreePathScanner;
import com.sun.source.util.Trees;
import java.io.IOException;
import java.net.URI;
import java.util.ArrayList;
import java.util.HashMap;
import java.util.HashSet;
import java.util.List;
import java.util.Map;
import java.util.Set;
import javax.lang.model.element.Element;
import javax.lang.model.element.ElementKind;
import javax.lang.model.element.ExecutableElement;
import javax.lang.model.element.Modifier;
import javax.lang.model.element.TypeElement;
import javax.lang.model.type.ArrayType;
import javax.lang.model.type.DeclaredType;
import javax.lang.model.type.TypeKind;
import javax.lang.model.type.TypeMirror;
import javax.tools.JavaFileObject;
import javax.tools.SimpleJavaFileObject;
import javax.tools.ToolProvider;

/** Reads a source as javac does and tells where it leaves ../shared/LANGUAGE.md. */
final class LanguageRules extends TreePathScanner<Void, Void> {
  private static final String OWN = "YouAreOnMute";
  private static final int MOST_LINES = 60;
  private static final int MOST_PARAMETERS = 7;
  private static final int MOST_CLASSES = 12;
  private static final int MOST_FIELDS = 20;
  private static final int DEEPEST = 8;

  private static final Set<String> THROWN = Set.of("IllegalStateException", "IllegalArgumentException",
      "IndexOutOfBoundsException", "ArithmeticException", "UnsupportedOperationException",
      "NoSuchElementException", "RuntimeException");
  // The others of THROWN are thrown by the machine, too, or stand above what is.
  private static final Set<String> CAUGHT = Set.of("IllegalStateException", "IllegalArgumentException",
      "UnsupportedOperationException", "NoSuchElementException");
  private static final Set<String> TYPES = Set.of("java.lang.String", "java.lang.StringBuilder",
      "java.lang.Integer", "java.util.ArrayList", "java.util.List", "java.util.Iterator");
  private static final Set<String> LIBRARY = Set.of("Object.<init>", "String.length", "String.charAt",
      "String.isEmpty", "String.equals", "String.indexOf", "String.substring", "String.toCharArray",
      "String.<init>", "StringBuilder.<init>", "StringBuilder.append", "StringBuilder.charAt",
      "StringBuilder.setCharAt", "StringBuilder.setLength", "StringBuilder.deleteCharAt",
      "StringBuilder.reverse", "StringBuilder.length", "StringBuilder.toString", "ArrayList.<init>",
      "ArrayList.add", "ArrayList.get", "ArrayList.set", "ArrayList.remove", "ArrayList.size",
      "ArrayList.isEmpty", "ArrayList.clear", "List.add", "List.get", "List.set", "List.remove",
      "List.size", "List.isEmpty", "List.clear", "List.of", "Integer.compare", "Integer.max",
      "Integer.min", "Integer.bitCount", "Long.compare", "Long.max", "Long.min", "Long.bitCount",
      "Math.max", "Math.min", "Math.abs", "Math.floorDiv", "Math.floorMod", "System.arraycopy",
      "Arrays.copyOf", "Arrays.copyOfRange", "Arrays.fill", "Array.clone", "Array.length");

  private final List<String> broken = new ArrayList<>();
  private final Map<Element, Set<Element>> calls = new HashMap<>();
  private final Set<Element> methodsWithTry = new HashSet<>();
  private final Set<Element> methodsWithThrow = new HashSet<>();
  private final Trees trees;
  private final CompilationUnitTree unit;
  int classes = 0;
  int methods = 0;
  int deepest = 0;

  private LanguageRules(Trees trees, CompilationUnitTree unit) {
    this.trees = trees;
    this.unit = unit;
  }

  /** Where the source, a class YouAreOnMute, breaks rules: "rule: line: why" each. */
  static LanguageRules read(String source) throws IOException {
    JavaFileObject file = new SimpleJavaFileObject(URI.create("string:///" + OWN + ".java"),
        JavaFileObject.Kind.SOURCE) {
      @Override
      public CharSequence getCharContent(boolean ignore) {
        return source;
      }
    };
    JavacTask task = (JavacTask) ToolProvider.getSystemJavaCompiler().getTask(null, null, null,
        List.of("-proc:none"), null, List.of(file));
    CompilationUnitTree unit = task.parse().iterator().next();
    task.analyze();
    LanguageRules rules = new LanguageRules(Trees.instance(task), unit);
    rules.scan(unit, null);
    rules.closeReading(source);
    return rules;
  }

  List<String> broken() {
    return broken;
  }

  private void breaks(int rule, Tree where, String why) {
    long at = trees.getSourcePositions().getStartPosition(unit, where);
    broken.add(rule + ": line " + unit.getLineMap().getLineNumber(at) + ": " + why);
  }

  private void closeReading(String source) {
    if (!source.chars().allMatch(sign -> sign == '\n' || sign >= ' ' && sign <= '~')) {
      broken.add("4: signs that are not 1 to 127");
    }
    if (unit.getPackageName() != null || unit.getTypeDecls().size() != 1) {
      broken.add("2: a package, or not one class with others inside");
    }
    methodsWithThrow.retainAll(methodsWithTry);
    methodsWithThrow.forEach(m -> broken.add("6: try and throw in " + m));
    if (classes > MOST_CLASSES) {
      broken.add("11: " + classes + " classes");
    }
    for (Element method : calls.keySet()) {
      deepest = Math.max(deepest, depth(method, new ArrayList<>()));
    }
    if (deepest > DEEPEST) {
      broken.add("11: calls go " + deepest + " deep");
    }
  }

  private int depth(Element method, List<Element> open) {
    if (open.contains(method)) {
      broken.add("8: recursion through " + method);
      return 0;
    }
    open.add(method);
    int below = 0;
    for (Element called : calls.getOrDefault(method, Set.of())) {
      below = Math.max(below, depth(called, open));
    }
    open.remove(method);
    return below + 1;
  }

  // ---- where a tree stands

  private Element at(Tree tree) {
    return trees.getElement(new TreePath(getCurrentPath(), tree));
  }

  private TypeMirror typeOf(Tree tree) {
    return trees.getTypeMirror(new TreePath(getCurrentPath(), tree));
  }

  private MethodTree methodAround() {
    for (TreePath path = getCurrentPath(); path != null; path = path.getParentPath()) {
      if (path.getLeaf() instanceof MethodTree) {
        return (MethodTree) path.getLeaf();
      }
    }
    return null;
  }

  private Element elementAround() {
    for (TreePath path = getCurrentPath(); path != null; path = path.getParentPath()) {
      if (path.getLeaf() instanceof MethodTree) {
        return trees.getElement(path);
      }
    }
    return null;
  }

  private static boolean isOwn(Element element) {
    Element outer = element;
    while (outer != null && outer.getEnclosingElement() != null
        && outer.getEnclosingElement().getKind() != ElementKind.PACKAGE) {
      outer = outer.getEnclosingElement();
    }
    return outer != null && outer.getSimpleName().contentEquals(OWN);
  }

  // ---- rules 1, 2, 5, 11: what stands in the class

  @Override
  public Void visitClass(ClassTree tree, Void v) {
    classes++;
    Tree parent = getCurrentPath().getParentPath().getLeaf();
    if (!(parent instanceof ClassTree) && !(parent instanceof CompilationUnitTree)
        && !(parent instanceof NewClassTree)) {
      breaks(2, tree, "a local class");
    }
    int fields = 0;
    for (Tree member : tree.getMembers()) {
      if (member instanceof BlockTree) {
        breaks(5, member, "an initialiser block");
      }
      if (member instanceof VariableTree) {
        boolean isStatic = ((VariableTree) member).getModifiers().getFlags().contains(Modifier.STATIC);
        fields += isStatic ? 0 : 1;
        if (isStatic) {
          staticField((VariableTree) member);
        }
      }
    }
    if (fields > MOST_FIELDS) {
      breaks(11, tree, fields + " fields");
    }
    return super.visitClass(tree, v);
  }

  private void staticField(VariableTree field) {
    Set<Modifier> flags = field.getModifiers().getFlags();
    TypeMirror type = typeOf(field);
    boolean told = Set.of("int", "long", "boolean", "char", "java.lang.String", "int[]", "long[]", "char[]",
        "byte[]").contains(type.toString());
    if (!flags.contains(Modifier.FINAL) || !told || field.getInitializer() == null) {
      breaks(5, field, "static " + field.getName());
    }
  }

  @Override
  public Void visitMethod(MethodTree tree, Void v) {
    methods++;
    Element own = trees.getElement(getCurrentPath());
    calls.computeIfAbsent(own, k -> new HashSet<>());
    if (tree.getParameters().size() > MOST_PARAMETERS) {
      breaks(11, tree, "parameters of " + tree.getName());
    }
    long first = unit.getLineMap().getLineNumber(trees.getSourcePositions().getStartPosition(unit, tree));
    long end = Math.max(0, trees.getSourcePositions().getEndPosition(unit, tree));
    if (unit.getLineMap().getLineNumber(end) - first >= MOST_LINES) {
      breaks(11, tree, "lines of " + tree.getName());
    }
    if (Set.of("equals", "hashCode", "toString").contains(tree.getName().toString())) {
      breaks(6, tree, "a " + tree.getName() + " of its own");
    }
    return super.visitMethod(tree, v);
  }

  @Override
  public Void visitLambdaExpression(LambdaExpressionTree tree, Void v) {
    breaks(2, tree, "a lambda");
    return super.visitLambdaExpression(tree, v);
  }

  @Override
  public Void visitMemberReference(MemberReferenceTree tree, Void v) {
    breaks(2, tree, "a method reference");
    return super.visitMemberReference(tree, v);
  }

  // ---- rules 3, 4: types and the library

  @Override
  public Void visitVariable(VariableTree tree, Void v) {
    boolean caught = getCurrentPath().getParentPath().getLeaf() instanceof CatchTree;
    if (!caught && !isTold(typeOf(tree), 0)) {
      breaks(3, tree, "the type of " + tree.getName());
    }
    return super.visitVariable(tree, v);
  }

  @Override
  public Void visitNewArray(NewArrayTree tree, Void v) {
    if (!isTold(typeOf(tree), 0)) {
      breaks(3, tree, "an array");
    }
    return super.visitNewArray(tree, v);
  }

  private static boolean isTold(TypeMirror type, int dimensions) {
    if (type.getKind() == TypeKind.ARRAY) {
      return isTold(((ArrayType) type).getComponentType(), dimensions + 1);
    }
    if (type.getKind().isPrimitive()) {
      return dimensions <= 2;
    }
    if (type.getKind() != TypeKind.DECLARED) {
      return false;
    }
    Element element = ((DeclaredType) type).asElement();
    return dimensions <= 1 && isOwn(element) || dimensions == 0 && TYPES.contains(element.toString());
  }

  @Override
  public Void visitAnnotation(AnnotationTree tree, Void v) {
    breaks(4, tree, "an annotation");
    return super.visitAnnotation(tree, v);
  }

  @Override
  public Void visitIdentifier(IdentifierTree tree, Void v) {
    looked(trees.getElement(getCurrentPath()), tree);
    return super.visitIdentifier(tree, v);
  }

  @Override
  public Void visitMemberSelect(MemberSelectTree tree, Void v) {
    looked(trees.getElement(getCurrentPath()), tree);
    return super.visitMemberSelect(tree, v);
  }

  private void looked(Element element, Tree where) {
    boolean member = element instanceof ExecutableElement
        || element != null && element.getKind() == ElementKind.FIELD && !where.toString().equals("this")
        && !where.toString().equals("super");
    if (member && !isOwn(element) && !LIBRARY.contains(nameOf(element))) {
      breaks(4, where, nameOf(element));
    }
  }

  private static String nameOf(Element element) {
    Element owner = element.getEnclosingElement();
    return (owner == null ? "" : owner.getSimpleName()) + "." + element.getSimpleName();
  }

  // ---- rules 8, 11: who calls whom

  @Override
  public Void visitMethodInvocation(MethodInvocationTree tree, Void v) {
    Element called = at(tree.getMethodSelect());
    calling(called, !tree.getMethodSelect().toString().startsWith("super"));
    return super.visitMethodInvocation(tree, v);
  }

  @Override
  public Void visitNewClass(NewClassTree tree, Void v) {
    Element made = trees.getElement(getCurrentPath());
    calling(made, false);
    boolean thrown = getCurrentPath().getParentPath().getLeaf() instanceof ThrowTree;
    if (!thrown && !isOwn(made) && !LIBRARY.contains(nameOf(made))) {
      breaks(4, tree, "new " + tree.getIdentifier());
    }
    return super.visitNewClass(tree, v);
  }

  private void calling(Element called, boolean orBelow) {
    Element caller = elementAround();
    if (caller == null || called == null) {
      return;
    }
    calls.computeIfAbsent(caller, k -> new HashSet<>()).add(called);
    if (orBelow && isOwn(called)) {
      for (TypeElement type : ownBelow((TypeElement) called.getEnclosingElement())) {
        for (Element member : type.getEnclosedElements()) {
          if (member.toString().equals(called.toString())) {
            calls.get(caller).add(member);
          }
        }
      }
    }
  }

  // All classes inside are known ahead of the bodies: they are members of the one outside.
  private static List<TypeElement> ownBelow(TypeElement type) {
    TypeElement outer = type;
    while (outer.getEnclosingElement() instanceof TypeElement) {
      outer = (TypeElement) outer.getEnclosingElement();
    }
    List<TypeElement> below = new ArrayList<>();
    for (Element inside : outer.getEnclosedElements()) {
      if (inside instanceof TypeElement) {
        TypeMirror up = ((TypeElement) inside).asType();
        while (up instanceof DeclaredType) {
          TypeElement element = (TypeElement) ((DeclaredType) up).asElement();
          if (element == type && inside != type) {
            below.add((TypeElement) inside);
          }
          up = element.getSuperclass();
        }
      }
    }
    return below;
  }

  // ---- rule 6: exceptions

  @Override
  public Void visitThrow(ThrowTree tree, Void v) {
    MethodTree method = methodAround();
    methodsWithThrow.add(elementAround());
    if (method == null || method.getName().contentEquals("<init>")) {
      breaks(6, tree, "a throw in a constructor");
    }
    ExpressionTree thrown = tree.getExpression();
    boolean told = thrown instanceof NewClassTree
        && THROWN.contains(((NewClassTree) thrown).getIdentifier().toString());
    for (ExpressionTree word : told ? ((NewClassTree) thrown).getArguments() : List.<ExpressionTree>of()) {
      told = told && word instanceof LiteralTree;
    }
    if (!told) {
      breaks(6, tree, "throw " + thrown);
    }
    return super.visitThrow(tree, v);
  }

  @Override
  public Void visitTry(TryTree tree, Void v) {
    methodsWithTry.add(elementAround());
    if (tree.getFinallyBlock() != null || !tree.getResources().isEmpty()) {
      breaks(6, tree, "finally, or resources");
    }
    return super.visitTry(tree, v);
  }

  @Override
  public Void visitCatch(CatchTree tree, Void v) {
    if (!CAUGHT.contains(tree.getParameter().getType().toString())) {
      breaks(6, tree, "catches " + tree.getParameter().getType());
    }
    String name = tree.getParameter().getName().toString();
    if (tree.getBlock().toString().matches("(?s).*\\b" + name + "\\b.*")) {
      breaks(6, tree, "the exception itself is used");
    }
    return super.visitCatch(tree, v);
  }

  @Override
  public Void visitSynchronized(SynchronizedTree tree, Void v) {
    breaks(6, tree, "synchronized");
    return super.visitSynchronized(tree, v);
  }

  @Override
  public Void visitAssert(AssertTree tree, Void v) {
    breaks(6, tree, "assert");
    return super.visitAssert(tree, v);
  }

  // ---- rules 6, 10: signs between texts

  @Override
  public Void visitBinary(BinaryTree tree, Void v) {
    String all = typeOf(tree.getLeftOperand()) + " " + typeOf(tree.getRightOperand());
    boolean compared = tree.getKind() == Tree.Kind.EQUAL_TO || tree.getKind() == Tree.Kind.NOT_EQUAL_TO;
    if (compared && all.matches("java.lang.(String|Integer) java.lang.(String|Integer)")) {
      breaks(6, tree, tree.toString());
    }
    if (tree.getKind() == Tree.Kind.PLUS && all.contains("String")) {
      breaks(10, tree, tree.toString());
    }
    return super.visitBinary(tree, v);
  }

  @Override
  public Void visitCompoundAssignment(CompoundAssignmentTree tree, Void v) {
    if (typeOf(tree.getVariable()).toString().contains("String")) {
      breaks(10, tree, tree.toString());
    }
    return super.visitCompoundAssignment(tree, v);
  }

  // ---- rule 9: loops

  @Override
  public Void visitForLoop(ForLoopTree tree, Void v) {
    endSeen(tree, tree.getCondition());
    return super.visitForLoop(tree, v);
  }

  @Override
  public Void visitWhileLoop(WhileLoopTree tree, Void v) {
    endSeen(tree, tree.getCondition());
    return super.visitWhileLoop(tree, v);
  }

  @Override
  public Void visitDoWhileLoop(DoWhileLoopTree tree, Void v) {
    endSeen(tree, tree.getCondition());
    return super.visitDoWhileLoop(tree, v);
  }

  private void endSeen(Tree loop, ExpressionTree condition) {
    if (condition == null || condition.toString().matches("\\(*true\\)*")) {
      breaks(9, loop, "a loop without an end");
    }
  }
}
