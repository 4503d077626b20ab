import com.sun.source.tree.AssignmentTree;
import com.sun.source.tree.BreakTree;
import com.sun.source.tree.CompoundAssignmentTree;
import com.sun.source.tree.DoWhileLoopTree;
import com.sun.source.tree.EnhancedForLoopTree;
import com.sun.source.tree.ExpressionStatementTree;
import com.sun.source.tree.ExpressionTree;
import com.sun.source.tree.ForLoopTree;
import com.sun.source.tree.IdentifierTree;
import com.sun.source.tree.LiteralTree;
import com.sun.source.tree.ParenthesizedTree;
import com.sun.source.tree.ReturnTree;
import com.sun.source.tree.SwitchTree;
import com.sun.source.tree.Tree;
import com.sun.source.tree.UnaryTree;
import com.sun.source.tree.VariableTree;
import com.sun.source.tree.WhileLoopTree;
import com.sun.source.util.TreePath;
import com.sun.source.util.TreePathScanner;
import com.sun.source.util.TreeScanner;
import com.sun.source.util.Trees;
import java.util.ArrayList;
import java.util.HashSet;
import java.util.List;
import java.util.Set;
import java.util.regex.Pattern;
import javax.lang.model.element.Element;
import javax.lang.model.element.ElementKind;

/**
 * Loops that surely have no end (rule 9 of ../shared/LANGUAGE.md). A loop that is left
 * by break or return, or whose condition asks a field or a call, is given the benefit
 * of the doubt: runs tell whether it ends.
 */
final class LanguageLoops {
    private static final Set<ElementKind> LOCALS = Set.of(ElementKind.LOCAL_VARIABLE, ElementKind.PARAMETER);

    private final Trees trees;

    LanguageLoops(Trees treesOfTask) {
        trees = treesOfTask;
    }

    boolean isEndless(TreePath loop) {
        Tree t = loop.getLeaf();
        ExpressionTree condition = conditionOf(t);
        if (isLeft(t)) {
            return false;
        }
        if (condition == null || isTrue(condition)) {
            return true;
        }
        return asksLocalsAlone(loop, condition) && !writesOneOf(t, namesIn(condition));
    }

    /** The counter of a for loop goes away from its bound, or back to its beginning. */
    boolean countsAstray(ForLoopTree t) {
        if (isLeft(t) || t.getCondition() == null || t.getUpdate().size() != 1 || t.getInitializer().size() != 1) {
            return false;
        }
        ExpressionTree update = ((ExpressionStatementTree) t.getUpdate().get(0)).getExpression();
        if (!(t.getInitializer().get(0) instanceof VariableTree counter) || !(update instanceof UnaryTree step)) {
            return false;
        }
        String name = counter.getName().toString();
        boolean up = step.getKind().name().endsWith("INCREMENT");
        boolean isBoundedAbove = Pattern.compile("\\b" + name + " <|> " + name + "\\b").matcher(t.getCondition().toString()).find();
        boolean isBoundedBelow = Pattern.compile("\\b" + name + " >|< " + name + "\\b").matcher(t.getCondition().toString()).find();
        boolean isAstray = up ? isBoundedBelow && !isBoundedAbove : isBoundedAbove && !isBoundedBelow;
        return isAstray && !writesOneOf(t.getStatement(), Set.of(name)) || up && isBoundedAbove && goesBack(t, name);
    }

    private static ExpressionTree conditionOf(Tree loop) {
        if (loop instanceof WhileLoopTree t) {
            return t.getCondition();
        }
        return loop instanceof DoWhileLoopTree t ? t.getCondition() : ((ForLoopTree) loop).getCondition();
    }

    private static boolean isTrue(ExpressionTree t) {
        if (t instanceof ParenthesizedTree inside) {
            return isTrue(inside.getExpression());
        }
        return t instanceof LiteralTree told && Boolean.TRUE.equals(told.getValue());
    }

    /** Whether a return, or a break of this loop or of a label, stands in it. */
    private static boolean isLeft(Tree loop) {
        boolean[] left = new boolean[1];
        new TreeScanner<Void, Integer>() {
            @Override
            public Void scan(Tree t, Integer inside) {
                boolean takesBreak = t instanceof WhileLoopTree || t instanceof DoWhileLoopTree || t instanceof ForLoopTree
                    || t instanceof EnhancedForLoopTree || t instanceof SwitchTree;
                return super.scan(t, takesBreak ? inside + 1 : inside);
            }

            @Override
            public Void visitReturn(ReturnTree t, Integer inside) {
                left[0] = true;
                return null;
            }

            @Override
            public Void visitBreak(BreakTree t, Integer inside) {
                left[0] |= t.getLabel() != null || inside == 1;
                return null;
            }
        }.scan(loop, 0);
        return left[0];
    }

    private boolean asksLocalsAlone(TreePath loop, ExpressionTree condition) {
        boolean[] others = new boolean[1];
        new TreePathScanner<Void, Void>() {
            @Override
            public Void visitIdentifier(IdentifierTree t, Void v) {
                Element e = trees.getElement(getCurrentPath());
                others[0] |= e == null || !LOCALS.contains(e.getKind());
                return null;
            }

            @Override
            public Void scan(Tree t, Void v) {
                others[0] |= t != null && Set.of(Tree.Kind.METHOD_INVOCATION, Tree.Kind.MEMBER_SELECT, Tree.Kind.ARRAY_ACCESS).contains(t.getKind());
                return super.scan(t, v);
            }
        }.scan(new TreePath(loop, condition), null);
        return !others[0];
    }

    private static Set<String> namesIn(ExpressionTree condition) {
        Set<String> names = new HashSet<>();
        new TreeScanner<Void, Void>() {
            @Override
            public Void visitIdentifier(IdentifierTree t, Void v) {
                names.add(t.getName().toString());
                return null;
            }
        }.scan(condition, null);
        return names;
    }

    private static boolean writesOneOf(Tree in, Set<String> names) {
        boolean[] writes = new boolean[1];
        new TreeScanner<Void, Void>() {
            private void note(ExpressionTree to) {
                writes[0] |= to instanceof IdentifierTree id && names.contains(id.getName().toString());
            }

            @Override
            public Void visitAssignment(AssignmentTree t, Void v) {
                note(t.getVariable());
                return super.visitAssignment(t, v);
            }

            @Override
            public Void visitCompoundAssignment(CompoundAssignmentTree t, Void v) {
                note(t.getVariable());
                return super.visitCompoundAssignment(t, v);
            }

            @Override
            public Void visitUnary(UnaryTree t, Void v) {
                if (t.getKind().name().endsWith("CREMENT")) {
                    note(t.getExpression());
                }
                return super.visitUnary(t, v);
            }
        }.scan(in, null);
        return writes[0];
    }

    private static boolean goesBack(ForLoopTree t, String counter) {
        List<Boolean> back = new ArrayList<>();
        new TreeScanner<Void, Void>() {
            @Override
            public Void visitAssignment(AssignmentTree a, Void v) {
                boolean isCounter = a.getVariable() instanceof IdentifierTree id && id.getName().contentEquals(counter);
                if (isCounter && a.getExpression() instanceof LiteralTree told && Integer.valueOf(0).equals(told.getValue())) {
                    back.add(true);
                }
                return super.visitAssignment(a, v);
            }
        }.scan(t.getStatement(), null);
        return !back.isEmpty();
    }
}
