import com.sun.source.tree.ArrayAccessTree;
import com.sun.source.tree.AssertTree;
import com.sun.source.tree.AssignmentTree;
import com.sun.source.tree.BinaryTree;
import com.sun.source.tree.BlockTree;
import com.sun.source.tree.ClassTree;
import com.sun.source.tree.CompilationUnitTree;
import com.sun.source.tree.CompoundAssignmentTree;
import com.sun.source.tree.ConditionalExpressionTree;
import com.sun.source.tree.DoWhileLoopTree;
import com.sun.source.tree.ExpressionTree;
import com.sun.source.tree.ForLoopTree;
import com.sun.source.tree.IdentifierTree;
import com.sun.source.tree.IfTree;
import com.sun.source.tree.InstanceOfTree;
import com.sun.source.tree.LambdaExpressionTree;
import com.sun.source.tree.LiteralTree;
import com.sun.source.tree.MemberReferenceTree;
import com.sun.source.tree.MemberSelectTree;
import com.sun.source.tree.MethodInvocationTree;
import com.sun.source.tree.MethodTree;
import com.sun.source.tree.NewArrayTree;
import com.sun.source.tree.NewClassTree;
import com.sun.source.tree.SwitchTree;
import com.sun.source.tree.SynchronizedTree;
import com.sun.source.tree.ThrowTree;
import com.sun.source.tree.Tree;
import com.sun.source.tree.TryTree;
import com.sun.source.tree.TypeCastTree;
import com.sun.source.tree.VariableTree;
import com.sun.source.tree.WhileLoopTree;
import com.sun.source.util.JavacTask;
import com.sun.source.util.TreePath;
import com.sun.source.util.TreePathScanner;
import com.sun.source.util.TreeScanner;
import com.sun.source.util.Trees;
import java.io.IOException;
import java.net.URI;
import java.util.ArrayList;
import java.util.HashSet;
import java.util.List;
import java.util.Set;
import javax.lang.model.element.Element;
import javax.lang.model.element.ElementKind;
import javax.lang.model.element.ExecutableElement;
import javax.lang.model.element.Modifier;
import javax.lang.model.element.VariableElement;
import javax.lang.model.type.ArrayType;
import javax.lang.model.type.DeclaredType;
import javax.lang.model.type.TypeKind;
import javax.lang.model.type.TypeMirror;
import javax.lang.model.util.Elements;
import javax.tools.Diagnostic;
import javax.tools.JavaFileObject;
import javax.tools.SimpleJavaFileObject;
import javax.tools.ToolProvider;

/**
 * Reads a source as javac does, and tells where it surely breaks ../shared/LANGUAGE.md:
 * what the rules leave is not found. Whether a call can throw or fail to end (rules 7
 * and 9) no reader can tell in full; FaceTest and RunsTest hold the class to that.
 */
final class LanguageRules extends TreePathScanner<Void, Void> {
    // "some sixty lines", "some twelve classes", "some twenty fields": a few more are some, too
    private static final int MOST_PARAMETERS = 7, MOST_LINES = 66, MOST_DEEP = 8, MOST_CLASSES = 14, MOST_FIELDS = 22;
    private static final int LAST_SIGN = 127;
    private static final Set<String> OBJECT_METHODS = Set.of("equals", "hashCode", "toString");
    private static final Set<TypeKind> CONSTANT_KINDS = Set.of(TypeKind.INT, TypeKind.LONG, TypeKind.BOOLEAN, TypeKind.CHAR);
    private static final Set<TypeKind> CONSTANT_ROWS = Set.of(TypeKind.INT, TypeKind.LONG, TypeKind.CHAR, TypeKind.BYTE);

    private final List<String> broken = new ArrayList<>();
    private final Set<String> faceNames = new HashSet<>();
    private final Trees trees;
    private final Elements elements;
    private final CompilationUnitTree unit;
    private final String source;
    private final LanguageLibrary library;
    private final LanguageLoops loops;
    private final LanguageCalls calls;
    private ExecutableElement method = null;
    private MethodTree methodTree = null;
    private int classes = 0;

    private LanguageRules(JavacTask task, CompilationUnitTree unitTold, String sourceTold) {
        trees = Trees.instance(task);
        elements = task.getElements();
        unit = unitTold;
        source = sourceTold;
        library = new LanguageLibrary(task.getTypes());
        loops = new LanguageLoops(trees);
        calls = new LanguageCalls(elements);
    }

    /** Where the source of LinenTunnel breaks a rule, each with the rule's number ahead. */
    static List<String> brokenIn(String source) throws IOException {
        JavaFileObject file = new SimpleJavaFileObject(URI.create("string:///LinenTunnel.java"), JavaFileObject.Kind.SOURCE) {
            @Override
            public CharSequence getCharContent(boolean ignoreErrors) {
                return source;
            }
        };
        List<String> wrong = new ArrayList<>();
        JavacTask task = (JavacTask) ToolProvider.getSystemJavaCompiler().getTask(null, null, d -> {
            if (d.getKind() == Diagnostic.Kind.ERROR) {
                wrong.add("javac: " + d);
            }
        }, List.of("--release", "17", "-proc:none"), null, List.of(file));
        CompilationUnitTree unit = task.parse().iterator().next();
        task.analyze();
        if (!wrong.isEmpty()) {
            return wrong;
        }
        LanguageRules rules = new LanguageRules(task, unit, source);
        rules.lookAtAll();
        return rules.broken;
    }

    private void lookAtAll() {
        breaks(1, unit, "a package line", unit.getPackageName() != null);
        breaks(1, unit, "more than one class beside one another", unit.getTypeDecls().size() != 1);
        for (Tree member : ((ClassTree) unit.getTypeDecls().get(0)).getMembers()) {
            if (member instanceof MethodTree m && m.getModifiers().getFlags().contains(Modifier.PUBLIC)) {
                faceNames.add(m.getName().toString());
            }
        }
        faceNames.remove("<init>");
        scan(unit, null);
        breaks(11, unit, "too many classes: " + classes, classes > MOST_CLASSES);
        for (ExecutableElement called : calls.methods()) {
            breaks(8, unit, "a recursion through " + called, calls.isWrongRecursion(called));
            int deep = calls.deepBelow(called);
            breaks(11, unit, "calls " + deep + " deep below " + called, deep > MOST_DEEP);
        }
    }

    private void breaks(int rule, Tree where, String what, boolean does) {
        if (does) {
            long at = trees.getSourcePositions().getStartPosition(unit, where);
            long line = at < 0 ? 0 : unit.getLineMap().getLineNumber(at);
            broken.add("rule " + rule + ", line " + line + ": " + what);
        }
    }

    private TypeMirror typeOf(Tree t) {
        return trees.getTypeMirror(new TreePath(getCurrentPath(), t));
    }

    private String textOf(Tree t) {
        long from = trees.getSourcePositions().getStartPosition(unit, t);
        long to = trees.getSourcePositions().getEndPosition(unit, t);
        return from < 0 || to < from ? "" : source.substring((int) from, (int) to);
    }

    /** A member of the document's class, not of one inside it. */
    private boolean isOutermost() {
        return getCurrentPath().getParentPath().getLeaf() == unit.getTypeDecls().get(0);
    }

    private static boolean isAny(Set<Modifier> flags, Modifier... asked) {
        for (Modifier flag : asked) {
            if (flags.contains(flag)) {
                return true;
            }
        }
        return false;
    }

    // ---- classes, methods, fields

    @Override
    public Void visitClass(ClassTree t, Void v) {
        classes++;
        Set<Modifier> flags = t.getModifiers().getFlags();
        Tree parent = getCurrentPath().getParentPath().getLeaf();
        if (parent == unit) {
            breaks(1, t, "a class that isn't public and final", !flags.containsAll(Set.of(Modifier.PUBLIC, Modifier.FINAL)));
        } else {
            boolean isStatic = t.getKind() != Tree.Kind.CLASS || flags.contains(Modifier.STATIC)
                || parent.getKind() == Tree.Kind.INTERFACE;
            breaks(2, t, "a local class", !(parent instanceof ClassTree) && !(parent instanceof NewClassTree));
            breaks(2, t, "an inner class that isn't static", !isStatic);
            breaks(1, t, "a class inside that is public or protected", isOutermost() && isAny(flags, Modifier.PUBLIC, Modifier.PROTECTED));
        }
        breaks(2, t, "an annotation", t.getKind() == Tree.Kind.ANNOTATION_TYPE);
        lookAtAncestors(t);
        lookAtMembers(t);
        return super.visitClass(t, v);
    }

    private void lookAtAncestors(ClassTree t) {
        List<Tree> ancestors = new ArrayList<>(t.getImplementsClause());
        if (t.getExtendsClause() != null) {
            ancestors.add(t.getExtendsClause());
        }
        for (Tree ancestor : ancestors) {
            breaks(4, t, "the ancestor " + ancestor, !library.hasAncestor(typeOf(ancestor)));
        }
    }

    private void lookAtMembers(ClassTree t) {
        int fields = 0;
        for (Tree member : t.getMembers()) {
            if (member instanceof VariableTree field && !field.getModifiers().getFlags().contains(Modifier.STATIC)) {
                fields++;
                boolean isText = LanguageLibrary.isNamed(trees.getTypeMirror(new TreePath(getCurrentPath(), field.getType())), "java.lang.String");
                boolean isPlain = isText || Set.of("int", "long", "boolean").contains(field.getType().toString());
                breaks(2, field, "a field of an enum that is neither number nor text", t.getKind() == Tree.Kind.ENUM && !isPlain);
            }
            breaks(5, t, "a static initialiser", member instanceof BlockTree block && block.isStatic());
        }
        breaks(11, t, "too many fields: " + fields, fields > MOST_FIELDS);
    }

    @Override
    public Void visitMethod(MethodTree t, Void v) {
        ExecutableElement outer = method;
        MethodTree outerTree = methodTree;
        method = (ExecutableElement) trees.getElement(getCurrentPath());
        methodTree = t;
        calls.addMethod(method);
        if (elements.getOrigin(method) == Elements.Origin.EXPLICIT) {
            lookAtMethod(t);
        }
        super.visitMethod(t, v);
        method = outer;
        methodTree = outerTree;
        return null;
    }

    private void lookAtMethod(MethodTree t) {
        String name = t.getName().toString();
        Set<Modifier> flags = method.getModifiers();
        breaks(1, t, "a private method with a name of the face: " + name, flags.contains(Modifier.PRIVATE) && faceNames.contains(name));
        breaks(1, t, "a method that is neither private nor public: " + name,
            isOutermost() && !isAny(flags, Modifier.PRIVATE, Modifier.PUBLIC));
        breaks(3, t, "the type " + method.getReturnType(), !library.hasType(method.getReturnType()));
        breaks(6, t, "a method " + name, OBJECT_METHODS.contains(name));
        breaks(6, t, "throws", !t.getThrows().isEmpty());
        breaks(6, t, "synchronized", flags.contains(Modifier.SYNCHRONIZED));
        breaks(11, t, "too many parameters", t.getParameters().size() > MOST_PARAMETERS);
        breaks(11, t, "too many lines", textOf(t).lines().count() > MOST_LINES);
    }

    @Override
    public Void visitVariable(VariableTree t, Void v) {
        Element e = trees.getElement(getCurrentPath());
        breaks(3, t, "the type " + e.asType(), !library.hasType(e.asType()));
        if (e.getKind() == ElementKind.FIELD) {
            Set<Modifier> flags = e.getModifiers();
            breaks(5, t, "a static field that isn't a constant", flags.contains(Modifier.STATIC) && !isConstant(t, (VariableElement) e));
            breaks(1, t, "a field that is neither private nor a constant of the face", isOutermost()
                && !flags.contains(Modifier.PRIVATE) && !flags.containsAll(Set.of(Modifier.PUBLIC, Modifier.STATIC)));
        }
        return super.visitVariable(t, v);
    }

    private boolean isConstant(VariableTree t, VariableElement field) {
        TypeMirror type = field.asType();
        if (!field.getModifiers().contains(Modifier.FINAL)) {
            return false;
        }
        if (CONSTANT_KINDS.contains(type.getKind()) || LanguageLibrary.isNamed(type, "java.lang.String")) {
            return field.getConstantValue() != null;
        }
        if (type instanceof ArrayType row && CONSTANT_ROWS.contains(row.getComponentType().getKind())) {
            return t.getInitializer() instanceof NewArrayTree made && made.getInitializers() != null;
        }
        // rule 12 asks to keep values() so, rule 4 leaves List.of of enum constants
        return t.getInitializer() instanceof MethodInvocationTree call && textOf(call).matches("(?s)((\\w+\\.)*values\\(\\)|List\\.of\\(.*)");
    }

    @Override
    public Void visitAssignment(AssignmentTree t, Void v) {
        lookAtWritten(t.getVariable());
        return super.visitAssignment(t, v);
    }

    private void lookAtWritten(ExpressionTree to) {
        if (to instanceof ArrayAccessTree access) {
            Element row = trees.getElement(new TreePath(getCurrentPath(), access.getExpression()));
            breaks(5, to, "a constant row that is changed", row != null && row.getKind() == ElementKind.FIELD
                && row.getModifiers().contains(Modifier.STATIC));
        }
    }

    // ---- calls, new objects

    @Override
    public Void visitMethodInvocation(MethodInvocationTree t, Void v) {
        ExecutableElement called = (ExecutableElement) trees.getElement(new TreePath(getCurrentPath(), t.getMethodSelect()));
        TypeMirror receiver = t.getMethodSelect() instanceof MemberSelectTree select ? typeOf(select.getExpression()) : null;
        boolean isOfObject = OBJECT_METHODS.contains(called.getSimpleName().toString());
        breaks(6, t, "a call of " + called, isOfObject && (LanguageLibrary.isOwn(called) || isOwnType(receiver)));
        if (LanguageLibrary.isOwn(called)) {
            breaks(12, t, "a constructor calls " + called + ", which may be overridden", isConstructor(method)
                && isOnThis(t.getMethodSelect()) && canBeOverridden(called));
            noteCall(called);
        } else {
            String owner = LanguageLibrary.nameOf(called.getEnclosingElement());
            breaks(4, t, "the call " + owner + "." + called, !library.hasCall(called, receiver));
        }
        return super.visitMethodInvocation(t, v);
    }

    private static boolean isOwnType(TypeMirror type) {
        return type instanceof DeclaredType told && LanguageLibrary.isOwn(told.asElement());
    }

    private void noteCall(ExecutableElement called) {
        if (method != null) {
            calls.addCall(method, called);
        }
    }

    private static boolean isConstructor(ExecutableElement e) {
        return e != null && e.getKind() == ElementKind.CONSTRUCTOR;
    }

    private static boolean isOnThis(ExpressionTree select) {
        return select instanceof IdentifierTree || select.toString().startsWith("this.");
    }

    private static boolean canBeOverridden(ExecutableElement called) {
        boolean isFixed = isAny(called.getModifiers(), Modifier.PRIVATE, Modifier.FINAL, Modifier.STATIC) || isConstructor(called);
        return !isFixed && !called.getEnclosingElement().getModifiers().contains(Modifier.FINAL);
    }

    @Override
    public Void visitIdentifier(IdentifierTree t, Void v) {
        Tree parent = getCurrentPath().getParentPath().getLeaf();
        boolean isHandedOut = !(parent instanceof MemberSelectTree)
            && !(parent instanceof MethodInvocationTree call && call.getMethodSelect() == t);
        breaks(12, t, "a constructor hands out its object", t.getName().contentEquals("this") && isConstructor(method) && isHandedOut);
        return super.visitIdentifier(t, v);
    }

    @Override
    public Void visitNewClass(NewClassTree t, Void v) {
        ExecutableElement made = (ExecutableElement) trees.getElement(getCurrentPath());
        breaks(2, t, "a class without a name", t.getClassBody() != null);
        breaks(4, t, "a new " + made, t.getClassBody() == null && !library.hasNew(made));
        noteCall(made);
        return super.visitNewClass(t, v);
    }

    @Override
    public Void visitNewArray(NewArrayTree t, Void v) {
        TypeMirror type = trees.getTypeMirror(getCurrentPath());
        breaks(3, t, "a row of the type " + type, type != null && !library.hasType(type));
        return super.visitNewArray(t, v);
    }

    @Override
    public Void visitLambdaExpression(LambdaExpressionTree t, Void v) {
        breaks(2, t, "a lambda", true);
        return super.visitLambdaExpression(t, v);
    }

    @Override
    public Void visitMemberReference(MemberReferenceTree t, Void v) {
        breaks(2, t, "a method reference", true);
        return super.visitMemberReference(t, v);
    }

    // ---- what rule 6 rules out

    @Override
    public Void visitThrow(ThrowTree t, Void v) {
        breaks(6, t, "throw", true);
        return super.visitThrow(t, v);
    }

    @Override
    public Void visitTry(TryTree t, Void v) {
        breaks(6, t, "try", true);
        return super.visitTry(t, v);
    }

    @Override
    public Void visitSynchronized(SynchronizedTree t, Void v) {
        breaks(6, t, "synchronized", true);
        return super.visitSynchronized(t, v);
    }

    @Override
    public Void visitAssert(AssertTree t, Void v) {
        breaks(6, t, "assert", true);
        return super.visitAssert(t, v);
    }

    @Override
    public Void visitInstanceOf(InstanceOfTree t, Void v) {
        noteBranch();
        return super.visitInstanceOf(t, v);
    }

    @Override
    public Void visitTypeCast(TypeCastTree t, Void v) {
        TypeMirror type = typeOf(t.getType());
        if (!type.getKind().isPrimitive()) {
            boolean isTested = calls.hasBranch(method) || library.isSubtype(typeOf(t.getExpression()), type);
            breaks(6, t, "a cast to " + type, !isOwnType(type) && type.getKind() != TypeKind.TYPEVAR);
            breaks(6, t, "a cast to " + type + " behind no test", isOwnType(type) && !isTested);
        }
        return super.visitTypeCast(t, v);
    }

    // ---- expressions

    @Override
    public Void visitLiteral(LiteralTree t, Void v) {
        boolean isFarText = t.getValue() instanceof String text && text.chars().anyMatch(sign -> sign < 1 || sign > LAST_SIGN);
        boolean isFarSign = t.getValue() instanceof Character sign && sign > LAST_SIGN;
        breaks(4, t, "a sign that is not 1 to 127", isFarText || isFarSign);
        return super.visitLiteral(t, v);
    }

    @Override
    public Void visitBinary(BinaryTree t, Void v) {
        TypeMirror left = typeOf(t.getLeftOperand());
        TypeMirror right = typeOf(t.getRightOperand());
        switch (t.getKind()) {
            case DIVIDE: case REMAINDER:
                lookAtDivisor(t, t.getRightOperand(), trees.getTypeMirror(getCurrentPath()), t.getKind() == Tree.Kind.REMAINDER);
                break;
            case EQUAL_TO: case NOT_EQUAL_TO:
                breaks(6, t, "two texts compared by ==", areBoth(left, right, "java.lang.String"));
                breaks(6, t, "two Integers compared by ==", areBoth(left, right, "java.lang.Integer"));
                break;
            case PLUS:
                breaks(10, t, "a text joined by +", LanguageLibrary.isNamed(trees.getTypeMirror(getCurrentPath()), "java.lang.String"));
                break;
            case CONDITIONAL_AND: case CONDITIONAL_OR:
                noteBranch();
                break;
            default:
        }
        return super.visitBinary(t, v);
    }

    private static boolean areBoth(TypeMirror left, TypeMirror right, String name) {
        return LanguageLibrary.isNamed(left, name) && LanguageLibrary.isNamed(right, name);
    }

    private void lookAtDivisor(Tree t, ExpressionTree divisor, TypeMirror type, boolean isRemainder) {
        boolean isFloating = type.getKind() == TypeKind.DOUBLE || type.getKind() == TypeKind.FLOAT;
        breaks(3, t, "% on doubles", isRemainder && isFloating);
        boolean isNought = divisor instanceof LiteralTree told && told.getValue() instanceof Number n && n.doubleValue() == 0;
        breaks(7, t, "a divisor that is 0", isNought);
        breaks(7, t, "a divisor that isn't looked at", isNeverLookedAt(divisor));
    }

    @Override
    public Void visitArrayAccess(ArrayAccessTree t, Void v) {
        breaks(7, t, "an index that isn't looked at", isNeverLookedAt(t.getIndex()));
        return super.visitArrayAccess(t, v);
    }

    /** What is told to a call of the face, and stands nowhere else in it, so that no test can be ahead. */
    private boolean isNeverLookedAt(ExpressionTree used) {
        if (method == null || !LanguageCalls.isOfFace(method) || !(used instanceof IdentifierTree)) {
            return false;
        }
        Element told = trees.getElement(new TreePath(getCurrentPath(), used));
        int[] times = new int[1];
        new TreeScanner<Void, Void>() {
            @Override
            public Void visitIdentifier(IdentifierTree id, Void v) {
                times[0] += id.getName().contentEquals(told.getSimpleName()) ? 1 : 0;
                return null;
            }
        }.scan(methodTree.getBody(), null);
        return told.getKind() == ElementKind.PARAMETER && times[0] == 1;
    }

    @Override
    public Void visitCompoundAssignment(CompoundAssignmentTree t, Void v) {
        TypeMirror type = typeOf(t.getVariable());
        Tree.Kind kind = t.getKind();
        lookAtWritten(t.getVariable());
        breaks(10, t, "a text joined by +", LanguageLibrary.isNamed(type, "java.lang.String"));
        if (kind == Tree.Kind.DIVIDE_ASSIGNMENT || kind == Tree.Kind.REMAINDER_ASSIGNMENT) {
            lookAtDivisor(t, t.getExpression(), type, kind == Tree.Kind.REMAINDER_ASSIGNMENT);
        }
        return super.visitCompoundAssignment(t, v);
    }

    // ---- branches, loops

    private void noteBranch() {
        if (method != null) {
            calls.addBranch(method);
        }
    }

    private void noteLoop(Tree t) {
        noteBranch();
        breaks(9, t, "a loop that has no end", loops.isEndless(getCurrentPath()));
    }

    @Override
    public Void visitIf(IfTree t, Void v) {
        noteBranch();
        return super.visitIf(t, v);
    }

    @Override
    public Void visitConditionalExpression(ConditionalExpressionTree t, Void v) {
        noteBranch();
        return super.visitConditionalExpression(t, v);
    }

    @Override
    public Void visitSwitch(SwitchTree t, Void v) {
        noteBranch();
        return super.visitSwitch(t, v);
    }

    @Override
    public Void visitWhileLoop(WhileLoopTree t, Void v) {
        noteLoop(t);
        return super.visitWhileLoop(t, v);
    }

    @Override
    public Void visitDoWhileLoop(DoWhileLoopTree t, Void v) {
        noteLoop(t);
        return super.visitDoWhileLoop(t, v);
    }

    @Override
    public Void visitForLoop(ForLoopTree t, Void v) {
        noteLoop(t);
        breaks(9, t, "a loop that counts away from its end", loops.countsAstray(t));
        return super.visitForLoop(t, v);
    }
}
