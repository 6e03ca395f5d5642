import com.sun.source.tree.*;
import com.sun.source.util.*;
import java.nio.file.Path;
import java.util.*;
import javax.lang.model.element.Element;
import javax.lang.model.element.ExecutableElement;
import javax.lang.model.element.Modifier;
import javax.lang.model.element.TypeElement;
import javax.lang.model.type.TypeKind;
import javax.tools.JavaCompiler;
import javax.tools.StandardJavaFileManager;
import javax.tools.ToolProvider;

/** The rules of LANGUAGE.md that can be seen in the tree of src/main/java/GatedPile.java. Run from the project's folder. */
final class LanguageTest {
  private static final Set<String> FACE = Set.of("feed", "end", "compile", "fault", "count", "order", "proc", "word", "net",
      "input", "clear", "reset", "clock", "run", "wire", "look", "memory", "output");
  private static final Set<String> LIBRARY = Set.of("java.lang.Math.min", "java.lang.Math.max", "java.util.Arrays.fill",
      "java.lang.System.arraycopy", "java.lang.String.length", "java.lang.String.charAt", "java.lang.String.indexOf",
      "java.lang.Object.<init>");
  private static final Set<Tree.Kind> REFUSED = EnumSet.of(Tree.Kind.THROW, Tree.Kind.TRY, Tree.Kind.SYNCHRONIZED,
      Tree.Kind.ASSERT, Tree.Kind.LAMBDA_EXPRESSION, Tree.Kind.MEMBER_REFERENCE, Tree.Kind.SWITCH_EXPRESSION,
      Tree.Kind.INSTANCE_OF);

  private static final Map<ExecutableElement, Set<ExecutableElement>> calls = new LinkedHashMap<>();
  private static int classes = 0;

  private static void refuse(String what, boolean broken) {
    Kit.due(what, broken, false);
  }

  private static final class Walk extends TreePathScanner<Void, Void> {
    private final Trees trees;
    private final CompilationUnitTree unit;
    private ExecutableElement within;

    Walk(Trees trees, CompilationUnitTree unit) {
      this.trees = trees;
      this.unit = unit;
    }

    private long lines(Tree t) {
      SourcePositions at = trees.getSourcePositions();
      LineMap map = unit.getLineMap();
      return map.getLineNumber(at.getEndPosition(unit, t)) - map.getLineNumber(at.getStartPosition(unit, t)) + 1;
    }

    @Override public Void scan(Tree t, Void v) {
      if (t != null) refuse("rules 2, 6: " + t.getKind(), REFUSED.contains(t.getKind()));
      return super.scan(t, v);
    }

    @Override public Void visitClass(ClassTree c, Void v) {
      classes++;
      TypeElement type = (TypeElement) trees.getElement(getCurrentPath());
      int fields = 0;
      for (Tree m : c.getMembers()) {
        refuse("rule 5: a block in " + c.getSimpleName(), m.getKind() == Tree.Kind.BLOCK);
        if (m.getKind() != Tree.Kind.VARIABLE) continue;
        Set<Modifier> flags = ((VariableTree) m).getModifiers().getFlags();
        if (!flags.contains(Modifier.STATIC)) fields++;
        else refuse("rule 5: " + m, !flags.contains(Modifier.FINAL));
      }
      refuse("rule 11: fields of " + c.getSimpleName() + ": " + fields, fields > 20);
      boolean outer = type.getEnclosingElement().getKind().isClass() == false;
      Set<Modifier> flags = c.getModifiers().getFlags();
      refuse("rules 1, 2: " + c.getSimpleName(), outer ? !flags.containsAll(Set.of(Modifier.PUBLIC, Modifier.FINAL))
          : !flags.contains(Modifier.STATIC) || flags.contains(Modifier.PUBLIC));
      if (outer) {
        for (Element e : type.getEnclosedElements()) {
          boolean told = FACE.contains(e.getSimpleName().toString()) || e.getSimpleName().contentEquals("NONE")
              || e.getSimpleName().contentEquals("<init>");
          if (!e.getKind().isClass()) refuse("rule 1: " + e, !told && !e.getModifiers().contains(Modifier.PRIVATE));
        }
      }
      return super.visitClass(c, v);
    }

    @Override public Void visitMethod(MethodTree m, Void v) {
      within = (ExecutableElement) trees.getElement(getCurrentPath());
      calls.putIfAbsent(within, new LinkedHashSet<>());
      refuse("rule 11: parameters of " + m.getName(), m.getParameters().size() > 7);
      refuse("rule 11: lines of " + m.getName() + ": " + lines(m), lines(m) > 60);
      boolean outer = within.getEnclosingElement().getSimpleName().contentEquals("GatedPile");
      refuse("rule 1: the name " + m.getName(), FACE.contains(m.getName().toString()) && !outer);
      return super.visitMethod(m, v);
    }

    private void calls(Element e) {
      if (!(e instanceof ExecutableElement called)) return;
      TypeElement owner = (TypeElement) called.getEnclosingElement();
      String name = owner.getQualifiedName() + "." + called.getSimpleName();
      if (!name.startsWith("GatedPile")) refuse("rule 4: " + name, !LIBRARY.contains(name));
      else if (within != null) calls.get(within).add(called);
    }

    @Override public Void visitMethodInvocation(MethodInvocationTree t, Void v) {
      calls(trees.getElement(getCurrentPath()));
      return super.visitMethodInvocation(t, v);
    }

    @Override public Void visitNewClass(NewClassTree t, Void v) {
      refuse("rule 2: a class without a name", t.getClassBody() != null);
      calls(trees.getElement(getCurrentPath()));
      return super.visitNewClass(t, v);
    }

    @Override public Void visitWhileLoop(WhileLoopTree t, Void v) {
      refuse("rule 9: a while without a counter", true);
      return super.visitWhileLoop(t, v);
    }

    @Override public Void visitForLoop(ForLoopTree t, Void v) {
      refuse("rule 9: a for without an end", t.getCondition() == null || t.getUpdate().isEmpty());
      return super.visitForLoop(t, v);
    }

    @Override public Void visitBinary(BinaryTree t, Void v) {
      if (t.getKind() == Tree.Kind.PLUS) {
        refuse("rule 10: " + t, trees.getTypeMirror(getCurrentPath()).getKind() == TypeKind.DECLARED);
      }
      return super.visitBinary(t, v);
    }
  }

  // ---- how deep calls go that are no recursion: a ring of methods counts as one

  private static boolean reaches(ExecutableElement from, ExecutableElement to) {
    Deque<ExecutableElement> left = new ArrayDeque<>(calls.getOrDefault(from, Set.of()));
    Set<ExecutableElement> seen = new HashSet<>();
    while (!left.isEmpty()) {
      ExecutableElement e = left.pop();
      if (e.equals(to)) return true;
      if (seen.add(e)) left.addAll(calls.getOrDefault(e, Set.of()));
    }
    return false;
  }

  private static final Map<ExecutableElement, Integer> deep = new HashMap<>();

  private static int depth(ExecutableElement from) {
    Integer known = deep.get(from);
    if (known != null) return known;
    Set<ExecutableElement> ring = new LinkedHashSet<>(Set.of(from));
    for (ExecutableElement e : calls.keySet()) if (reaches(from, e) && reaches(e, from)) ring.add(e);
    int most = 0;
    for (ExecutableElement r : ring) {
      for (ExecutableElement c : calls.getOrDefault(r, Set.of())) if (!ring.contains(c)) most = Math.max(most, depth(c));
    }
    for (ExecutableElement r : ring) deep.put(r, most + 1);
    return most + 1;
  }

  public static void main(String[] args) throws Exception {
    JavaCompiler javac = ToolProvider.getSystemJavaCompiler();
    StandardJavaFileManager files = javac.getStandardFileManager(null, null, null);
    JavacTask task = (JavacTask) javac.getTask(null, files, null, List.of("-proc:none"), null,
        files.getJavaFileObjects(Path.of("src/main/java/GatedPile.java")));
    CompilationUnitTree unit = task.parse().iterator().next();
    task.analyze();
    new Walk(Trees.instance(task), unit).scan(new TreePath(unit), null);
    refuse("rule 11: classes: " + classes, classes > 12);
    for (ExecutableElement e : calls.keySet()) {
      if (e.getModifiers().contains(Modifier.PUBLIC)) refuse("rule 11: calls of " + e + " go " + depth(e) + " deep", depth(e) > 8);
    }
    for (ImportTree i : unit.getImports()) {
      refuse("rule 4: " + i, !i.getQualifiedIdentifier().toString().equals("java.util.Arrays"));
    }
    Kit.due("methods of the face", calls.keySet().stream().filter(e -> e.getModifiers().contains(Modifier.PUBLIC)).count(), 19);
    Kit.finish();
  }
}
