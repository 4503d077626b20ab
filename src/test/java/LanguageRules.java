import com.sun.source.tree.ArrayAccessTree;
import com.sun.source.tree.AssertTree;
import com.sun.source.tree.AssignmentTree;
import com.sun.source.tree.BinaryTree;
import com.sun.source.tree.BlockTree;
import com.sun.source.tree.ClassTree;
import com.sun.source.tree.CompilationUnitTree;
import com.sun.source.tree.CompoundAssignmentTree;
import com.sun.source.tree.DoWhileLoopTree;
import com.sun.source.tree.ExpressionStatementTree;
import com.sun.source.tree.ExpressionTree;
import com.sun.source.tree.ForLoopTree;
import com.sun.source.tree.IdentifierTree;
import com.sun.source.tree.ImportTree;
import com.sun.source.tree.LambdaExpressionTree;
import com.sun.source.tree.LiteralTree;
import com.sun.source.tree.MemberReferenceTree;
import com.sun.source.tree.MethodInvocationTree;
import com.sun.source.tree.MethodTree;
import com.sun.source.tree.NewArrayTree;
import com.sun.source.tree.NewClassTree;
import com.sun.source.tree.SynchronizedTree;
import com.sun.source.tree.ThrowTree;
import com.sun.source.tree.Tree;
import com.sun.source.tree.TryTree;
import com.sun.source.tree.TypeCastTree;
import com.sun.source.tree.UnaryTree;
import com.sun.source.tree.VariableTree;
import com.sun.source.tree.WhileLoopTree;
import com.sun.source.util.JavacTask;
import com.sun.source.util.TreePath;
import com.sun.source.util.TreePathScanner;
import com.sun.source.util.Trees;
import java.io.IOException;
import java.net.URI;
import java.util.ArrayList;
import java.util.HashMap;
import java.util.HashSet;
import java.util.LinkedHashSet;
import java.util.List;
import java.util.Map;
import java.util.Set;
import java.util.regex.Matcher;
import java.util.regex.Pattern;
import javax.lang.model.element.Element;
import javax.lang.model.element.ElementKind;
import javax.lang.model.element.ExecutableElement;
import javax.lang.model.element.Modifier;
import javax.lang.model.type.ArrayType;
import javax.lang.model.type.TypeKind;
import javax.lang.model.type.TypeMirror;
import javax.tools.JavaCompiler;
import javax.tools.JavaFileObject;
import javax.tools.SimpleJavaFileObject;
import javax.tools.ToolProvider;

/**
 * Reads a source as javac does, and tells where it breaks ../shared/LANGUAGE.md.
 * It is stricter than the rules where the program has no need of what they leave.
 */
final class LanguageRules extends TreePathScanner<Void, Void> {
    private static final int MOST_PARAMETERS = 7, MOST_LINES = 60, MOST_DEEP = 8, MOST_CLASSES = 12, MOST_FIELDS = 20;
    private static final Set<String> LIBRARY_TYPES = Set.of("java.lang.String", "java.lang.StringBuilder", "java.lang.Integer",
        "java.util.ArrayList", "java.util.List");
    private static final Set<String> LIBRARY_CALLS = Set.of("java.lang.Math.max", "java.lang.Math.min", "java.lang.Math.abs",
        "java.lang.Math.floorDiv", "java.lang.Math.floorMod", "java.lang.System.arraycopy", "java.util.Arrays.fill");
    private static final Set<TypeKind> CONSTANT_KINDS = Set.of(TypeKind.INT, TypeKind.LONG, TypeKind.BOOLEAN, TypeKind.CHAR);
    private static final Pattern GUARDED = Pattern.compile("i >= 0 && i < items\\.length");

    private final List<String> broken = new ArrayList<>();
    private final Map<Element, Set<Element>> calls = new HashMap<>();
    private final Set<String> faceNames = new HashSet<>();
    private final Trees trees;
    private final CompilationUnitTree unit;
    private final String source;
    private Element method = null;
    private int classes = 0;

    private LanguageRules(Trees treesOfTask, CompilationUnitTree unitTold, String sourceTold) {
        trees = treesOfTask;
        unit = unitTold;
        source = sourceTold;
    }

    /** Where the source of LinenTunnel breaks a rule, each with the rule's number ahead. */
    static List<String> brokenIn(String source) throws IOException {
        JavaCompiler javac = ToolProvider.getSystemJavaCompiler();
        JavaFileObject file = new SimpleJavaFileObject(URI.create("string:///LinenTunnel.java"), JavaFileObject.Kind.SOURCE) {
            @Override
            public CharSequence getCharContent(boolean ignoreErrors) {
                return source;
            }
        };
        List<String> wrong = new ArrayList<>();
        JavacTask task = (JavacTask) javac.getTask(null, null, d -> wrong.add("javac: " + d), List.of("--release", "17", "-proc:none"), null, List.of(file));
        CompilationUnitTree unit = task.parse().iterator().next();
        task.analyze();
        if (!wrong.isEmpty()) {
            return wrong;
        }
        LanguageRules rules = new LanguageRules(Trees.instance(task), unit, source);
        rules.lookAtAll();
        return rules.broken;
    }

    private void lookAtAll() {
        breaks(1, unit, "a package line", unit.getPackageName() != null);
        breaks(1, unit, "more than one class beside one another", unit.getTypeDecls().size() != 1);
        breaks(3, unit, "a sign above 127", source.chars().anyMatch(sign -> sign > 127));
        for (Tree member : ((ClassTree) unit.getTypeDecls().get(0)).getMembers()) {
            if (member instanceof MethodTree m && m.getModifiers().getFlags().contains(Modifier.PUBLIC)) {
                faceNames.add(m.getName().toString());
            }
        }
        scan(unit, null);
        breaks(11, unit, "too many classes: " + classes, classes > MOST_CLASSES);
        for (Element called : calls.keySet()) {
            int deep = deepFrom(called, new LinkedHashSet<>());
            breaks(8, unit, "recursion from " + called, deep < 0);
            breaks(11, unit, "calls " + deep + " deep from " + called, deep > MOST_DEEP);
        }
    }

    private void breaks(int rule, Tree where, String what, boolean does) {
        if (does) {
            long at = trees.getSourcePositions().getStartPosition(unit, where);
            long line = at < 0 ? 0 : unit.getLineMap().getLineNumber(at);
            broken.add("rule " + rule + ", line " + line + ": " + what);
        }
    }

    /** How many calls stand open at most, or -1 if there is no end. */
    private int deepFrom(Element from, Set<Element> open) {
        if (!open.add(from)) {
            return -1;
        }
        int deep = 1;
        for (Element called : calls.getOrDefault(from, Set.of())) {
            int below = deepFrom(called, open);
            if (below < 0) {
                return -1;
            }
            deep = Math.max(deep, below + 1);
        }
        open.remove(from);
        return deep;
    }

    // ---- classes, methods, fields

    @Override
    public Void visitImport(ImportTree t, Void v) {
        breaks(4, t, "an import of " + t.getQualifiedIdentifier(), !LIBRARY_TYPES.contains(t.getQualifiedIdentifier().toString()));
        return null;
    }

    @Override
    public Void visitClass(ClassTree t, Void v) {
        classes++;
        Set<Modifier> flags = t.getModifiers().getFlags();
        Tree parent = getCurrentPath().getParentPath().getLeaf();
        if (parent != unit) {
            breaks(2, t, "a class inside a class or method of its own", parent != unit.getTypeDecls().get(0));
            breaks(2, t, "an inner class that isn't static", t.getKind() == Tree.Kind.CLASS && !flags.contains(Modifier.STATIC));
            breaks(1, t, "a class inside that is public", flags.contains(Modifier.PUBLIC) || flags.contains(Modifier.PROTECTED));
        }
        int fields = 0;
        for (Tree member : t.getMembers()) {
            if (member instanceof VariableTree field && !field.getModifiers().getFlags().contains(Modifier.STATIC)) {
                fields++;
            }
            breaks(5, t, "a static initialiser", member instanceof BlockTree block && block.isStatic());
        }
        breaks(11, t, "too many fields: " + fields, fields > MOST_FIELDS);
        return super.visitClass(t, v);
    }

    @Override
    public Void visitMethod(MethodTree t, Void v) {
        Element outer = method;
        method = trees.getElement(getCurrentPath());
        calls.computeIfAbsent(method, m -> new LinkedHashSet<>());
        String name = t.getName().toString();
        boolean isFace = t.getModifiers().getFlags().contains(Modifier.PUBLIC);
        breaks(1, t, "a method inside with a name of the face: " + name, !isFace && faceNames.contains(name) && !name.equals("<init>"));
        breaks(6, t, "a method " + name, Set.of("equals", "hashCode", "toString").contains(name));
        breaks(6, t, "throws", !t.getThrows().isEmpty());
        breaks(11, t, "too many parameters", t.getParameters().size() > MOST_PARAMETERS);
        breaks(11, t, "too many lines", textOf(t).lines().count() > MOST_LINES);
        super.visitMethod(t, v);
        method = outer;
        return null;
    }

    @Override
    public Void visitVariable(VariableTree t, Void v) {
        Element e = trees.getElement(getCurrentPath());
        TypeMirror type = e.asType();
        Set<Modifier> flags = e.getModifiers();
        breaks(3, t, "the type " + type, !isAllowed(type, 0));
        if (e.getKind() == ElementKind.FIELD) {
            boolean isText = type.toString().equals("java.lang.String");
            breaks(5, t, "a static field that isn't a constant",
                flags.contains(Modifier.STATIC) && !(flags.contains(Modifier.FINAL) && (isText || CONSTANT_KINDS.contains(type.getKind()))));
            breaks(7, t, "a reference that might be null later", !type.getKind().isPrimitive() && !flags.contains(Modifier.FINAL));
            breaks(1, t, "a field that is neither private nor a constant of the face",
                !flags.contains(Modifier.PRIVATE) && !(flags.contains(Modifier.PUBLIC) && flags.contains(Modifier.STATIC)));
        }
        return super.visitVariable(t, v);
    }

    private boolean isAllowed(TypeMirror type, int dimensions) {
        if (type instanceof ArrayType array) {
            return isAllowed(array.getComponentType(), dimensions + 1);
        }
        if (type.getKind().isPrimitive()) {
            boolean canBeNan = type.getKind() == TypeKind.DOUBLE || type.getKind() == TypeKind.FLOAT;
            return !canBeNan && dimensions <= 2;
        }
        String name = type.toString().replaceAll("<.*", "");
        return dimensions <= 1 && (isOwn(name) || dimensions == 0 && LIBRARY_TYPES.contains(name));
    }

    private static boolean isOwn(String name) {
        return name.equals("LinenTunnel") || name.startsWith("LinenTunnel.");
    }

    // ---- calls, new objects

    @Override
    public Void visitMethodInvocation(MethodInvocationTree t, Void v) {
        Element called = trees.getElement(new TreePath(getCurrentPath(), t.getMethodSelect()));
        String owner = called.getEnclosingElement().toString();
        if (isOwn(owner)) {
            calls.computeIfAbsent(method, m -> new LinkedHashSet<>()).add(called);
        } else {
            String name = owner + "." + called.getSimpleName();
            breaks(4, t, "the call " + name, !LIBRARY_CALLS.contains(name) && !name.equals("java.lang.Object.<init>"));
        }
        return super.visitMethodInvocation(t, v);
    }

    @Override
    public Void visitNewClass(NewClassTree t, Void v) {
        breaks(2, t, "an anonymous class", t.getClassBody() != null);
        Element made = trees.getElement(getCurrentPath());
        String owner = made.getEnclosingElement().toString();
        breaks(4, t, "a new " + owner, !isOwn(owner));
        madeWhereItMay(t);
        calls.computeIfAbsent(method, m -> new LinkedHashSet<>()).add(made);
        return super.visitNewClass(t, v);
    }

    @Override
    public Void visitNewArray(NewArrayTree t, Void v) {
        madeWhereItMay(t);
        for (ExpressionTree length : t.getDimensions()) {
            breaks(7, t, "a length that isn't looked at", !textOf(length).equals("length > 0 ? length : 0"));
        }
        return super.visitNewArray(t, v);
    }

    private void madeWhereItMay(Tree t) {
        boolean isCall = method instanceof ExecutableElement && method.getKind() != ElementKind.CONSTRUCTOR;
        breaks(12, t, "an object that a call makes", isCall);
        for (TreePath p = getCurrentPath(); p != null; p = p.getParentPath()) {
            Tree.Kind kind = p.getLeaf().getKind();
            breaks(12, t, "an object that a loop makes", kind == Tree.Kind.FOR_LOOP || kind == Tree.Kind.WHILE_LOOP || kind == Tree.Kind.DO_WHILE_LOOP);
        }
    }

    @Override
    public Void visitLambdaExpression(LambdaExpressionTree t, Void v) {
        breaks(2, t, "a lambda", true);
        return super.visitLambdaExpression(t, v);
    }

    @Override
    public Void visitMemberReference(MemberReferenceTree t, Void v) {
        breaks(2, t, "a method reference", true);
        return super.visitMemberReference(t, v);
    }

    // ---- what may throw

    @Override
    public Void visitThrow(ThrowTree t, Void v) {
        breaks(6, t, "throw", true);
        return super.visitThrow(t, v);
    }

    @Override
    public Void visitTry(TryTree t, Void v) {
        breaks(6, t, "try", true);
        return super.visitTry(t, v);
    }

    @Override
    public Void visitSynchronized(SynchronizedTree t, Void v) {
        breaks(6, t, "synchronized", true);
        return super.visitSynchronized(t, v);
    }

    @Override
    public Void visitAssert(AssertTree t, Void v) {
        breaks(6, t, "assert", true);
        return super.visitAssert(t, v);
    }

    @Override
    public Void visitTypeCast(TypeCastTree t, Void v) {
        TypeMirror type = trees.getTypeMirror(new TreePath(getCurrentPath(), t.getType()));
        breaks(6, t, "a cast to " + type, !type.getKind().isPrimitive());
        return super.visitTypeCast(t, v);
    }

    @Override
    public Void visitLiteral(LiteralTree t, Void v) {
        breaks(7, t, "null", t.getKind() == Tree.Kind.NULL_LITERAL);
        return super.visitLiteral(t, v);
    }

    @Override
    public Void visitArrayAccess(ArrayAccessTree t, Void v) {
        boolean guarded = false;
        for (TreePath p = getCurrentPath(); p != null && !(p.getLeaf() instanceof MethodTree); p = p.getParentPath()) {
            Tree.Kind kind = p.getLeaf().getKind();
            boolean looks = kind == Tree.Kind.IF || kind == Tree.Kind.CONDITIONAL_EXPRESSION;
            guarded |= looks && GUARDED.matcher(textOf(p.getLeaf())).find();
            guarded |= kind == Tree.Kind.FOR_LOOP && textOf(p.getLeaf()).startsWith("for (int i = 0; i < items.length; i++)");
        }
        breaks(7, t, "an index that isn't looked at", !guarded || !textOf(t).equals("items[i]"));
        return super.visitArrayAccess(t, v);
    }

    @Override
    public Void visitBinary(BinaryTree t, Void v) {
        Tree.Kind kind = t.getKind();
        breaks(7, t, "a divisor", kind == Tree.Kind.DIVIDE || kind == Tree.Kind.REMAINDER);
        TypeMirror left = trees.getTypeMirror(new TreePath(getCurrentPath(), t.getLeftOperand()));
        breaks(10, t, "a text joined by +", kind == Tree.Kind.PLUS && !left.getKind().isPrimitive());
        breaks(6, t, "objects compared by ==", kind == Tree.Kind.EQUAL_TO && !left.getKind().isPrimitive());
        return super.visitBinary(t, v);
    }

    @Override
    public Void visitCompoundAssignment(CompoundAssignmentTree t, Void v) {
        Tree.Kind kind = t.getKind();
        breaks(7, t, "a divisor", kind == Tree.Kind.DIVIDE_ASSIGNMENT || kind == Tree.Kind.REMAINDER_ASSIGNMENT);
        return super.visitCompoundAssignment(t, v);
    }

    // ---- loops

    @Override
    public Void visitWhileLoop(WhileLoopTree t, Void v) {
        Matcher bound = Pattern.compile("\\(.* && (\\w+) < MOST_\\w+\\)").matcher(textOf(t.getCondition()));
        boolean counts = bound.matches() && textOf(t.getStatement()).matches("\\{\\s*" + bound.group(1) + "\\+\\+;(?s:.*)");
        breaks(9, t, "a loop whose end can't be seen", !counts);
        return super.visitWhileLoop(t, v);
    }

    @Override
    public Void visitDoWhileLoop(DoWhileLoopTree t, Void v) {
        breaks(9, t, "a loop whose end can't be seen", true);
        return super.visitDoWhileLoop(t, v);
    }

    @Override
    public Void visitForLoop(ForLoopTree t, Void v) {
        boolean counts = t.getCondition() != null && t.getUpdate().size() == 1 && t.getInitializer().size() == 1
            && t.getInitializer().get(0) instanceof VariableTree;
        if (counts) {
            String name = ((VariableTree) t.getInitializer().get(0)).getName().toString();
            ExpressionTree update = ((ExpressionStatementTree) t.getUpdate().get(0)).getExpression();
            String condition = textOf(t.getCondition());
            boolean up = textOf(update).equals(name + "++") && Pattern.compile("\\b" + name + " <=? ").matcher(condition).find();
            boolean down = textOf(update).equals(name + "--") && Pattern.compile("\\b" + name + " >=? ").matcher(condition).find();
            counts = (up || down) && !condition.contains("||") && !isWrittenIn(name, t.getStatement());
        }
        breaks(9, t, "a loop that doesn't count to an end", !counts);
        return super.visitForLoop(t, v);
    }

    private boolean isWrittenIn(String name, Tree body) {
        boolean[] written = new boolean[1];
        new TreePathScanner<Void, Void>() {
            private void note(ExpressionTree to) {
                written[0] |= to instanceof IdentifierTree id && id.getName().contentEquals(name);
            }

            @Override
            public Void visitAssignment(AssignmentTree a, Void v) {
                note(a.getVariable());
                return super.visitAssignment(a, v);
            }

            @Override
            public Void visitCompoundAssignment(CompoundAssignmentTree a, Void v) {
                note(a.getVariable());
                return super.visitCompoundAssignment(a, v);
            }

            @Override
            public Void visitUnary(UnaryTree a, Void v) {
                boolean writes = a.getKind().name().contains("CREMENT");
                if (writes) {
                    note(a.getExpression());
                }
                return super.visitUnary(a, v);
            }
        }.scan(new TreePath(getCurrentPath(), body), null);
        return written[0];
    }

    private String textOf(Tree t) {
        long from = trees.getSourcePositions().getStartPosition(unit, t);
        long to = trees.getSourcePositions().getEndPosition(unit, t);
        return from < 0 || to < from ? "" : source.substring((int) from, (int) to);
    }
}
