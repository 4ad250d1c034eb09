import com.sun.source.tree.AnnotatedTypeTree;
import com.sun.source.tree.AssertTree;
import com.sun.source.tree.AssignmentTree;
import com.sun.source.tree.ArrayAccessTree;
import com.sun.source.tree.BinaryTree;
import com.sun.source.tree.ClassTree;
import com.sun.source.tree.CompilationUnitTree;
import com.sun.source.tree.CompoundAssignmentTree;
import com.sun.source.tree.DoWhileLoopTree;
import com.sun.source.tree.ExpressionTree;
import com.sun.source.tree.ForLoopTree;
import com.sun.source.tree.IdentifierTree;
import com.sun.source.tree.LambdaExpressionTree;
import com.sun.source.tree.LiteralTree;
import com.sun.source.tree.MemberReferenceTree;
import com.sun.source.tree.MemberSelectTree;
import com.sun.source.tree.MethodInvocationTree;
import com.sun.source.tree.MethodTree;
import com.sun.source.tree.NewArrayTree;
import com.sun.source.tree.NewClassTree;
import com.sun.source.tree.SynchronizedTree;
import com.sun.source.tree.ThrowTree;
import com.sun.source.tree.Tree;
import com.sun.source.tree.TryTree;
import com.sun.source.tree.TypeCastTree;
import com.sun.source.tree.UnaryTree;
import com.sun.source.tree.VariableTree;
import com.sun.source.tree.WhileLoopTree;
import com.sun.source.util.JavacTask;
import com.sun.source.util.TreePath;
import com.sun.source.util.TreePathScanner;
import com.sun.source.util.Trees;
import java.io.IOException;
import java.nio.file.Path;
import java.util.HashMap;
import java.util.HashSet;
import java.util.List;
import java.util.Map;
import java.util.Set;
import javax.lang.model.element.Element;
import javax.lang.model.element.ElementKind;
import javax.lang.model.element.Modifier;
import javax.lang.model.type.TypeMirror;
import javax.tools.JavaCompiler;
import javax.tools.StandardJavaFileManager;
import javax.tools.ToolProvider;

/** The rules of LANGUAGE.md, read off the source as the compiler understands it. Each check says the rule's number. */
final class Rules extends TreePathScanner<Void, Void> {
    private static final Set<String> PLAIN = Set.of("int", "long", "short", "byte", "char", "boolean", "double", "float");
    private static final Set<String> NUMBERS = Set.of("int", "long", "short", "byte", "char", "double", "float");
    private static final Set<String> STRING_CALLS =
        Set.of("length", "charAt", "isEmpty", "equals", "indexOf", "substring", "toCharArray");
    private static final Set<String> ARRAYS_CALLS = Set.of("copyOf", "copyOfRange", "fill");
    private static final Set<Tree.Kind> STEPS = Set.of(Tree.Kind.POSTFIX_INCREMENT, Tree.Kind.POSTFIX_DECREMENT,
        Tree.Kind.PREFIX_INCREMENT, Tree.Kind.PREFIX_DECREMENT);
    private static final int MOST_LINES = 60;
    private static final int MOST_DEEP = 8;

    private final Trees trees;
    private final CompilationUnitTree unit;
    private final Map<String, Set<String>> calls = new HashMap<>();
    private final Map<String, Integer> depths = new HashMap<>();
    private final Set<String> ownClasses = new HashSet<>();
    private String method = "";
    private boolean inMaking;

    private Rules(Trees trees, CompilationUnitTree unit) {
        this.trees = trees;
        this.unit = unit;
    }

    static void check(String file) throws IOException {
        JavaCompiler compiler = ToolProvider.getSystemJavaCompiler();
        try (StandardJavaFileManager files = compiler.getStandardFileManager(null, null, null)) {
            JavacTask task = (JavacTask) compiler.getTask(null, files, null, null, null, files.getJavaFileObjects(Path.of(file)));
            Iterable<? extends CompilationUnitTree> units = task.parse();
            task.analyze();
            for (CompilationUnitTree unit : units) {
                Rules rules = new Rules(Trees.instance(task), unit);
                rules.readClasses();
                rules.scan(unit, null);
                rules.checkDepths();
            }
        }
    }

    private void holds(int rule, Tree at, String what, boolean so) {
        if (!so) {
            long line = unit.getLineMap().getLineNumber(trees.getSourcePositions().getStartPosition(unit, at));
            Due.holds("rule " + rule + ", line " + line + ": " + what, false);
        }
    }

    private void never(int rule, Tree at) {
        holds(rule, at, "no " + at.getKind(), false);
    }

    private void readClasses() {
        new TreePathScanner<Void, Void>() {
            @Override
            public Void visitClass(ClassTree c, Void v) {
                ownClasses.add(c.getSimpleName().toString());
                return super.visitClass(c, v);
            }
        }.scan(unit, null);
        holds(11, unit, "at most twelve classes", ownClasses.size() <= 12);
        holds(1, unit, "no package line", unit.getPackage() == null);
    }

    @Override
    public Void visitClass(ClassTree c, Void v) {
        Tree parent = getCurrentPath().getParentPath().getLeaf();
        holds(2, c, "no class within a method", parent instanceof CompilationUnitTree || parent instanceof ClassTree);
        Set<Modifier> flags = c.getModifiers().getFlags();
        if (parent instanceof ClassTree) {
            holds(1, c, "a class inside is private or package-visible, and static", flags.contains(Modifier.STATIC)
                && !flags.contains(Modifier.PUBLIC) && !flags.contains(Modifier.PROTECTED));
        }
        int fields = 0;
        for (Tree member : c.getMembers()) {
            holds(5, member, "no initialiser block", member.getKind() != Tree.Kind.BLOCK);
            if (member instanceof VariableTree f && !f.getModifiers().getFlags().contains(Modifier.STATIC)) {
                fields++;
            }
        }
        holds(11, c, "at most twenty fields", fields <= 20);
        return super.visitClass(c, v);
    }

    @Override
    public Void visitMethod(MethodTree m, Void v) {
        String before = method;
        boolean madeBefore = inMaking;
        method = nameOf(trees.getElement(getCurrentPath()));
        inMaking = m.getReturnType() == null;
        holds(11, m, "at most seven parameters", m.getParameters().size() <= 7);
        long start = unit.getLineMap().getLineNumber(trees.getSourcePositions().getStartPosition(unit, m));
        long end = unit.getLineMap().getLineNumber(Math.max(0, trees.getSourcePositions().getEndPosition(unit, m)));
        holds(11, m, "a method of some sixty lines at most", end - start < MOST_LINES);
        holds(6, m, "no throws", m.getThrows().isEmpty());
        holds(3, m, "the type that it answers", m.getReturnType() == null || isGoodType(m.getReturnType().toString(), true));
        super.visitMethod(m, v);
        method = before;
        inMaking = madeBefore;
        return null;
    }

    @Override
    public Void visitVariable(VariableTree f, Void v) {
        Element e = trees.getElement(getCurrentPath());
        holds(3, f, "the type of " + f, isGoodType(e.asType().toString(), false));
        if (e.getKind() == ElementKind.FIELD && e.getModifiers().contains(Modifier.STATIC)) {
            holds(5, f, "a static field is final: " + f.getName(), e.getModifiers().contains(Modifier.FINAL));
            String type = e.asType().toString();
            boolean written = f.getInitializer() instanceof NewArrayTree a && a.getInitializers() != null;
            holds(5, f, "a constant or an array written out: " + f.getName(),
                Set.of("int", "long", "boolean", "char", "java.lang.String").contains(type)
                    || Set.of("int[]", "long[]", "char[]", "byte[]").contains(type) && written);
            return null;
        }
        boolean madeBefore = inMaking;
        inMaking = inMaking || e.getKind() == ElementKind.FIELD;
        super.visitVariable(f, v);
        inMaking = madeBefore;
        return null;
    }

    /** Plain types and rows of them, classes of the file and rows of them, String: all that the class needs of rule 3. */
    private boolean isGoodType(String type, boolean mayBeVoid) {
        String one = type.replace("[]", "").replace("TomorrowBells.", "").replace("java.lang.String", "String");
        int rows = (type.length() - type.replace("[]", "").length()) / 2;
        if (mayBeVoid && type.equals("void")) {
            return true;
        }
        if (one.equals("String")) {
            return rows == 0;
        }
        return NUMBERS.contains(one) ? rows <= 2 : (PLAIN.contains(one) || ownClasses.contains(one)) && rows <= 1;
    }

    private static String nameOf(Element e) {
        return e.getEnclosingElement().getSimpleName() + "." + e;
    }

    @Override
    public Void visitMethodInvocation(MethodInvocationTree call, Void v) {
        Element e = trees.getElement(new TreePath(getCurrentPath(), call.getMethodSelect()));
        String owner = e.getEnclosingElement().toString();
        String name = e.getSimpleName().toString();
        if (owner.startsWith("TomorrowBells")) {
            calls.computeIfAbsent(method, k -> new HashSet<>()).add(nameOf(e));
        } else {
            holds(4, call, "nothing of the library but what is told: " + owner + "." + name, isInLibrary(owner, name));
        }
        return super.visitMethodInvocation(call, v);
    }

    private static boolean isInLibrary(String owner, String name) {
        switch (owner) {
            case "java.lang.String": return STRING_CALLS.contains(name);
            case "java.lang.Math", "java.lang.Integer", "java.lang.Long": return !name.endsWith("Exact") && !name.equals("random");
            case "java.util.Arrays": return ARRAYS_CALLS.contains(name);
            case "java.lang.System": return name.equals("arraycopy");
            case "java.lang.Object": return name.equals("<init>");
            default: return false;
        }
    }

    /** The room of a run is kept by this, which is more than rule 12 asks: only what makes an object makes rows and objects. */
    @Override
    public Void visitNewClass(NewClassTree made, Void v) {
        holds(2, made, "no class without a name", made.getClassBody() == null);
        holds(12, made, "an object is made by a constructor alone", inMaking);
        holds(3, made, "an object of the file's own classes", ownClasses.contains(made.getIdentifier().toString()));
        return super.visitNewClass(made, v);
    }

    @Override
    public Void visitNewArray(NewArrayTree made, Void v) {
        holds(12, made, "a row is made by a constructor alone", inMaking);
        return super.visitNewArray(made, v);
    }

    @Override
    public Void visitAssignment(AssignmentTree a, Void v) {
        holdsOwnRows(a.getVariable());
        return super.visitAssignment(a, v);
    }

    @Override
    public Void visitCompoundAssignment(CompoundAssignmentTree a, Void v) {
        holdsOwnRows(a.getVariable());
        return super.visitCompoundAssignment(a, v);
    }

    @Override
    public Void visitUnary(UnaryTree a, Void v) {
        if (STEPS.contains(a.getKind())) {
            holdsOwnRows(a.getExpression());
        }
        return super.visitUnary(a, v);
    }

    private void holdsOwnRows(ExpressionTree changed) {
        if (changed instanceof ArrayAccessTree row && row.getExpression() instanceof IdentifierTree name) {
            TreePath path = new TreePath(new TreePath(new TreePath(getCurrentPath(), changed), name), name);
            Element e = trees.getElement(path);
            holds(5, changed, "a static row is never changed", e == null || !e.getModifiers().contains(Modifier.STATIC));
        }
    }

    @Override
    public Void visitBinary(BinaryTree b, Void v) {
        String left = typeOf(b.getLeftOperand());
        String right = typeOf(b.getRightOperand());
        boolean texts = left.equals("java.lang.String") || right.equals("java.lang.String");
        boolean boxed = left.equals("java.lang.Integer") && right.equals("java.lang.Integer");
        if (b.getKind() == Tree.Kind.PLUS) {
            holds(10, b, "no text is joined by +", !texts);
        }
        if (b.getKind() == Tree.Kind.EQUAL_TO || b.getKind() == Tree.Kind.NOT_EQUAL_TO) {
            holds(6, b, "no two texts or Integers are compared by ==", !boxed && !(left.equals(right) && texts));
        }
        return super.visitBinary(b, v);
    }

    private String typeOf(ExpressionTree e) {
        TypeMirror type = trees.getTypeMirror(new TreePath(getCurrentPath(), e));
        return type == null ? "" : type.toString();
    }

    @Override
    public Void visitTypeCast(TypeCastTree cast, Void v) {
        holds(6, cast, "only numbers are cast", NUMBERS.contains(cast.getType().toString()));
        return super.visitTypeCast(cast, v);
    }

    @Override
    public Void visitLiteral(LiteralTree literal, Void v) {
        if (literal.getValue() instanceof String text) {
            holds(4, literal, "signs 1 to 127 in a text", text.chars().allMatch(c -> c >= 1 && c <= 127));
        }
        return super.visitLiteral(literal, v);
    }

    @Override
    public Void visitForLoop(ForLoopTree loop, Void v) {
        holdsEnd(loop, loop.getCondition());
        return super.visitForLoop(loop, v);
    }

    @Override
    public Void visitWhileLoop(WhileLoopTree loop, Void v) {
        holdsEnd(loop, loop.getCondition());
        return super.visitWhileLoop(loop, v);
    }

    @Override
    public Void visitDoWhileLoop(DoWhileLoopTree loop, Void v) {
        holdsEnd(loop, loop.getCondition());
        return super.visitDoWhileLoop(loop, v);
    }

    private void holdsEnd(Tree loop, ExpressionTree condition) {
        String text = condition == null ? "" : condition.toString();
        holds(9, loop, "a loop ends at a bound that its head tells", text.contains("<") || text.contains(">"));
    }

    /** Fails on recursion too: a call that stands open is met again. */
    private void checkDepths() {
        for (String caller : List.copyOf(calls.keySet())) {
            int depth = depthOf(caller, new HashSet<>());
            Due.holds("rule 11: " + caller + " calls " + depth + " deep, at most eight", depth <= MOST_DEEP);
        }
    }

    private int depthOf(String caller, Set<String> open) {
        if (!open.add(caller)) {
            Due.holds("rule 8: " + caller + " does not call itself", false);
            return 0;
        }
        int deepest = 0;
        if (!depths.containsKey(caller)) {
            for (String called : calls.getOrDefault(caller, Set.of())) {
                deepest = Math.max(deepest, depthOf(called, open));
            }
            depths.put(caller, deepest + 1);
        }
        open.remove(caller);
        return depths.get(caller);
    }

    @Override
    public Void visitThrow(ThrowTree t, Void v) {
        never(6, t);
        return super.visitThrow(t, v);
    }

    @Override
    public Void visitTry(TryTree t, Void v) {
        never(6, t);
        return super.visitTry(t, v);
    }

    @Override
    public Void visitSynchronized(SynchronizedTree t, Void v) {
        never(6, t);
        return super.visitSynchronized(t, v);
    }

    @Override
    public Void visitAssert(AssertTree t, Void v) {
        never(6, t);
        return super.visitAssert(t, v);
    }

    @Override
    public Void visitLambdaExpression(LambdaExpressionTree t, Void v) {
        never(2, t);
        return super.visitLambdaExpression(t, v);
    }

    @Override
    public Void visitMemberReference(MemberReferenceTree t, Void v) {
        never(2, t);
        return super.visitMemberReference(t, v);
    }

    @Override
    public Void visitAnnotatedType(AnnotatedTypeTree t, Void v) {
        never(3, t);
        return super.visitAnnotatedType(t, v);
    }

    /** Fields of the library (System.out, Integer.MAX_VALUE) are nothing that rule 4 names. */
    @Override
    public Void visitMemberSelect(MemberSelectTree s, Void v) {
        Element e = trees.getElement(getCurrentPath());
        if (e != null && e.getKind() == ElementKind.FIELD && !s.getIdentifier().contentEquals("length")) {
            holds(4, s, "no field of the library: " + s, e.getEnclosingElement().toString().startsWith("TomorrowBells"));
        }
        return super.visitMemberSelect(s, v);
    }
}
