import com.sun.source.tree.*;
import com.sun.source.util.JavacTask;
import com.sun.source.util.SourcePositions;
import com.sun.source.util.TreePath;
import com.sun.source.util.TreePathScanner;
import com.sun.source.util.Trees;
import java.io.File;
import java.util.Arrays;
import java.util.HashMap;
import java.util.HashSet;
import java.util.LinkedHashMap;
import java.util.LinkedHashSet;
import java.util.Map;
import java.util.Set;
import javax.lang.model.element.Element;
import javax.lang.model.element.ElementKind;
import javax.lang.model.element.ExecutableElement;
import javax.lang.model.element.Modifier;
import javax.lang.model.type.TypeKind;
import javax.tools.JavaCompiler;
import javax.tools.StandardJavaFileManager;
import javax.tools.ToolProvider;

/** What of ../shared/LANGUAGE.md can be seen in the source of HarbourDesk. */
public final class LanguageTest extends TreePathScanner<Void, Void> {
  static final Set<String> LIBRARY = new HashSet<>(Arrays.asList(
      "String.length", "String.charAt", "String.isEmpty", "String.equals", "String.indexOf", "String.substring", "String.toCharArray",
      "StringBuilder.<init>", "StringBuilder.append", "StringBuilder.charAt", "StringBuilder.setCharAt", "StringBuilder.setLength",
      "StringBuilder.deleteCharAt", "StringBuilder.reverse", "StringBuilder.length", "StringBuilder.toString", "Math.max", "Math.min",
      "Math.abs", "IllegalArgumentException.<init>", "IllegalStateException.<init>", "NoSuchElementException.<init>",
      "Object.<init>"));
  static final Set<Tree.Kind> BANNED = new HashSet<>(Arrays.asList(Tree.Kind.LAMBDA_EXPRESSION, Tree.Kind.MEMBER_REFERENCE, Tree.Kind.TRY,
      Tree.Kind.SYNCHRONIZED, Tree.Kind.ASSERT, Tree.Kind.INSTANCE_OF, Tree.Kind.SWITCH_EXPRESSION, Tree.Kind.ENHANCED_FOR_LOOP));

  final Trees trees;
  final SourcePositions positions;
  final CompilationUnitTree unit;
  final Map<Element, Set<Element>> calls = new LinkedHashMap<>();
  final Set<String> faceNames = new HashSet<>();
  final Set<String> otherNames = new HashSet<>();
  int classes = 0;

  LanguageTest(Trees trees, CompilationUnitTree unit) {
    this.trees = trees;
    this.positions = trees.getSourcePositions();
    this.unit = unit;
  }

  public static void main(String[] args) throws Exception {
    JavaCompiler compiler = ToolProvider.getSystemJavaCompiler();
    StandardJavaFileManager files = compiler.getStandardFileManager(null, null, null);
    File source = new File("src/main/java/HarbourDesk.java");
    JavacTask task = (JavacTask) compiler.getTask(null, files, null, null, null, files.getJavaFileObjects(source));
    CompilationUnitTree unit = task.parse().iterator().next();
    task.analyze();
    LanguageTest scan = new LanguageTest(Trees.instance(task), unit);
    scan.scan(unit, null);
    scan.judge();
    Desk.end();
  }

  void wrong(String what, Tree at) {
    Desk.due("line " + line(positions.getStartPosition(unit, at)) + ": " + what, 0, 1);
  }

  long line(long position) { return unit.getLineMap().getLineNumber(position); }

  void judge() {
    Desk.due("classes", classes <= 12 ? 1 : 0, 1);
    for (String name : otherNames) Desk.due("a method beside the face named " + name, faceNames.contains(name) ? 1 : 0, 0);
    Map<Element, Integer> depths = new HashMap<>();
    for (Element method : calls.keySet()) {
      int depth = depth(method, depths, new LinkedHashSet<>());
      Desk.due("calls below " + method + " of " + method.getEnclosingElement() + ": " + depth, depth <= 8 ? 1 : 0, 1);
    }
  }

  int depth(Element method, Map<Element, Integer> done, Set<Element> open) {
    if (!calls.containsKey(method)) return 0;
    if (done.containsKey(method)) return done.get(method);
    if (!open.add(method)) {
      Desk.due("recursion of " + method, 0, 1);
      return 0;
    }
    int most = 0;
    for (Element next : calls.get(method)) most = Math.max(most, depth(next, done, open));
    open.remove(method);
    done.put(method, most + 1);
    return most + 1;
  }

  @Override public Void scan(Tree tree, Void p) {
    if (tree != null && BANNED.contains(tree.getKind())) wrong("no " + tree.getKind(), tree);
    return super.scan(tree, p);
  }

  @Override public Void visitImport(ImportTree tree, Void p) {
    if (!tree.getQualifiedIdentifier().toString().equals("java.util.NoSuchElementException")) wrong("no import", tree);
    return super.visitImport(tree, p);
  }

  @Override public Void visitClass(ClassTree tree, Void p) {
    classes++;
    int fields = 0;
    for (Tree member : tree.getMembers()) {
      if (member instanceof VariableTree && !((VariableTree) member).getModifiers().getFlags().contains(Modifier.STATIC)) fields++;
    }
    if (fields > 20) wrong(fields + " fields", tree);
    return super.visitClass(tree, p);
  }

  @Override public Void visitVariable(VariableTree tree, Void p) {
    Set<Modifier> flags = tree.getModifiers().getFlags();
    if (flags.contains(Modifier.STATIC)) {
      String type = tree.getType().toString();
      if (!flags.contains(Modifier.FINAL)) wrong("a static field that can change", tree);
      if (!Arrays.asList("int", "long", "boolean", "char", "String", "int[]").contains(type)) wrong("a static " + type, tree);
    }
    Element element = trees.getElement(getCurrentPath());
    boolean isField = element.getKind() == ElementKind.FIELD;
    if (isField && !flags.contains(Modifier.PRIVATE) && !tree.getName().contentEquals("NONE")) wrong("a field that is not private", tree);
    return super.visitVariable(tree, p);
  }

  @Override public Void visitMethod(MethodTree tree, Void p) {
    Element method = trees.getElement(getCurrentPath());
    calls.putIfAbsent(method, new LinkedHashSet<>());
    String name = tree.getName().toString();
    boolean isFace = tree.getModifiers().getFlags().contains(Modifier.PUBLIC);
    if (!name.equals("<init>")) (isFace ? faceNames : otherNames).add(name);
    boolean inFaceClass = method.getEnclosingElement().getSimpleName().contentEquals("HarbourDesk");
    if (inFaceClass && !isFace && !tree.getModifiers().getFlags().contains(Modifier.PRIVATE)) wrong("package-visible", tree);
    if (tree.getParameters().size() > 7) wrong("parameters", tree);
    long lines = line(positions.getEndPosition(unit, tree)) - line(positions.getStartPosition(unit, tree)) + 1;
    if (!name.equals("<init>") && lines > 60) wrong(lines + " lines", tree);
    return super.visitMethod(tree, p);
  }

  void called(Tree tree) {
    Element target = trees.getElement(getCurrentPath());
    if (!(target instanceof ExecutableElement)) return;
    Element owner = target.getEnclosingElement();
    if (owner.toString().startsWith("HarbourDesk")) {
      Element from = enclosingMethod();
      if (from != null) calls.computeIfAbsent(from, k -> new LinkedHashSet<>()).add(target);
    } else if (!LIBRARY.contains(owner.getSimpleName().toString().replace("Abstract", "") + "." + target.getSimpleName())) {
      wrong("no " + owner + "." + target, tree);
    }
  }

  Element enclosingMethod() {
    for (TreePath path = getCurrentPath(); path != null; path = path.getParentPath()) {
      if (path.getLeaf() instanceof MethodTree) return trees.getElement(path);
    }
    return null;
  }

  @Override public Void visitMethodInvocation(MethodInvocationTree tree, Void p) {
    called(tree);
    return super.visitMethodInvocation(tree, p);
  }

  @Override public Void visitNewClass(NewClassTree tree, Void p) {
    called(tree);
    return super.visitNewClass(tree, p);
  }

  @Override public Void visitBinary(BinaryTree tree, Void p) {
    String type = String.valueOf(trees.getTypeMirror(getCurrentPath()));
    if (type.equals("java.lang.String")) wrong("texts joined by +", tree);
    return super.visitBinary(tree, p);
  }

  @Override public Void visitNewArray(NewArrayTree tree, Void p) {
    if (tree.getType() != null && tree.getType().toString().equals("String")) wrong("an array of String", tree);
    return super.visitNewArray(tree, p);
  }

  @Override public Void visitThrow(ThrowTree tree, Void p) {
    if (tree.getExpression().getKind() != Tree.Kind.NEW_CLASS) wrong("throw of something old", tree);
    Element method = enclosingMethod();
    if (method == null || method.getKind() == ElementKind.CONSTRUCTOR) wrong("throw in a constructor", tree);
    return super.visitThrow(tree, p);
  }

  @Override public Void visitLiteral(LiteralTree tree, Void p) {
    if (trees.getTypeMirror(getCurrentPath()).getKind() == TypeKind.DECLARED) {
      for (char c : String.valueOf(tree.getValue()).toCharArray()) if (c < 1 || c > 127) wrong("a sign beyond 127", tree);
    }
    return super.visitLiteral(tree, p);
  }
}
