import com.sun.source.tree.AssertTree;
import com.sun.source.tree.AssignmentTree;
import com.sun.source.tree.BinaryTree;
import com.sun.source.tree.BlockTree;
import com.sun.source.tree.ClassTree;
import com.sun.source.tree.CompilationUnitTree;
import com.sun.source.tree.DoWhileLoopTree;
import com.sun.source.tree.EnhancedForLoopTree;
import com.sun.source.tree.ForLoopTree;
import com.sun.source.tree.ImportTree;
import com.sun.source.tree.LambdaExpressionTree;
import com.sun.source.tree.MemberReferenceTree;
import com.sun.source.tree.MethodInvocationTree;
import com.sun.source.tree.MethodTree;
import com.sun.source.tree.NewArrayTree;
import com.sun.source.tree.NewClassTree;
import com.sun.source.tree.SynchronizedTree;
import com.sun.source.tree.ThrowTree;
import com.sun.source.tree.Tree;
import com.sun.source.tree.TryTree;
import com.sun.source.tree.TypeCastTree;
import com.sun.source.tree.VariableTree;
import com.sun.source.tree.WhileLoopTree;
import com.sun.source.util.TreePath;
import com.sun.source.util.TreePathScanner;
import com.sun.source.util.Trees;
import java.util.ArrayList;
import java.util.HashMap;
import java.util.LinkedHashSet;
import java.util.List;
import java.util.Map;
import java.util.Set;
import java.util.TreeSet;
import javax.lang.model.element.Element;
import javax.lang.model.element.ElementKind;
import javax.lang.model.element.ExecutableElement;
import javax.lang.model.element.Modifier;
import javax.lang.model.element.TypeElement;
import javax.lang.model.type.ArrayType;
import javax.lang.model.type.DeclaredType;
import javax.lang.model.type.TypeKind;
import javax.lang.model.type.TypeMirror;

/** Walks through the source; each place that a rule of LANGUAGE.md speaks of is looked at under the rule's number. */
final class Rules extends TreePathScanner<Void, Void> {
    private static final int MOST_DEEP = 8, MOST_CLASSES = 12, MOST_FIELDS = 20, MOST_PARAMETERS = 7, MOST_LINES = 60;
    private static final Set<String> LIBRARY = Set.of("System.arraycopy", "Math.abs", "Math.max", "Math.min", "Integer.bitCount");

    private final CompilationUnitTree unit;
    private final Trees trees;
    private final List<TypeElement> classes = new ArrayList<>();
    private final Set<String> publicNames = new TreeSet<>();
    private final Set<String> otherNames = new TreeSet<>();
    private final Map<ExecutableElement, Set<ExecutableElement>> calls = new HashMap<>();
    /** Calls that a class further down may answer: of each the caller and what it calls. */
    private final List<ExecutableElement[]> openCalls = new ArrayList<>();
    private final Map<ExecutableElement, List<ExecutableElement>> overriders = new HashMap<>();
    private int looked = 0;
    private int broken = 0;

    Rules(CompilationUnitTree unit, Trees trees) {
        this.unit = unit;
        this.trees = trees;
    }

    int looked() {
        return looked;
    }

    int broken() {
        return broken;
    }

    private void hold(int rule, String what, boolean holds, Tree at) {
        looked++;
        if (holds) return;
        broken++;
        System.out.println("rule " + rule + (at == null ? "" : ", line " + lineOf(at, false)) + ": not so: " + what);
    }

    private long lineOf(Tree tree, boolean isEnd) {
        long position = isEnd ? trees.getSourcePositions().getEndPosition(unit, tree) : trees.getSourcePositions().getStartPosition(unit, tree);
        return unit.getLineMap().getLineNumber(position);
    }

    private Element elementOf(Tree tree) {
        return trees.getElement(new TreePath(getCurrentPath(), tree));
    }

    private TypeMirror typeOf(Tree tree) {
        return trees.getTypeMirror(new TreePath(getCurrentPath(), tree));
    }

    private static boolean isOwn(TypeMirror type) {
        return type instanceof DeclaredType d && isOwn(d.asElement());
    }

    private static boolean isOwn(Element e) {
        for (Element at = e; at != null; at = at.getEnclosingElement()) if (at.getSimpleName().contentEquals("SteerBench")) return true;
        return false;
    }

    private boolean isInLoop() {
        for (TreePath path = getCurrentPath(); path != null && !(path.getLeaf() instanceof MethodTree); path = path.getParentPath()) {
            Tree leaf = path.getLeaf();
            if (leaf instanceof ForLoopTree || leaf instanceof EnhancedForLoopTree || leaf instanceof WhileLoopTree
                || leaf instanceof DoWhileLoopTree) return true;
        }
        return false;
    }

    private ExecutableElement methodAround() {
        for (TreePath path = getCurrentPath(); path != null; path = path.getParentPath())
            if (path.getLeaf() instanceof MethodTree) return (ExecutableElement) trees.getElement(path);
        return null;
    }

    // ---- rules 1, 2, 5, 11: classes and members

    @Override
    public Void visitImport(ImportTree node, Void none) {
        hold(4, "no import", false, node);
        return super.visitImport(node, none);
    }

    @Override
    public Void visitClass(ClassTree node, Void none) {
        TypeElement c = (TypeElement) trees.getElement(getCurrentPath());
        classes.add(c);
        Set<Modifier> flags = c.getModifiers();
        Tree around = getCurrentPath().getParentPath().getLeaf();
        boolean isFace = around == unit;
        hold(2, "a class stands in a class, not in a method", isFace || around instanceof ClassTree, node);
        hold(1, "the face is public and final", !isFace || flags.contains(Modifier.PUBLIC) && flags.contains(Modifier.FINAL), node);
        hold(1, "a class inside is static, and private or package-visible", isFace || flags.contains(Modifier.STATIC)
            && !flags.contains(Modifier.PUBLIC) && !flags.contains(Modifier.PROTECTED), node);
        int fields = 0;
        for (Tree member : node.getMembers()) {
            if (member instanceof VariableTree v && !v.getModifiers().getFlags().contains(Modifier.STATIC)) fields++;
            hold(5, "no block of its own in a class", !(member instanceof BlockTree), member);
        }
        hold(11, c + " has some twenty fields at most", fields <= MOST_FIELDS, node);
        return super.visitClass(node, none);
    }

    @Override
    public Void visitMethod(MethodTree node, Void none) {
        ExecutableElement m = (ExecutableElement) trees.getElement(getCurrentPath());
        boolean isPublic = m.getModifiers().contains(Modifier.PUBLIC);
        boolean isConstructor = m.getKind() == ElementKind.CONSTRUCTOR;
        if (!isConstructor) (isPublic ? publicNames : otherNames).add(m.getSimpleName().toString());
        boolean isOfFace = m.getEnclosingElement().getSimpleName().contentEquals("SteerBench");
        hold(1, m + " is public of the face alone", isPublic == (isOfFace && !m.getModifiers().contains(Modifier.PRIVATE)), node);
        hold(6, m + " tells of no exception", node.getThrows().isEmpty(), node);
        hold(11, m + " has seven parameters at most", node.getParameters().size() <= MOST_PARAMETERS, node);
        if (lineOf(node, true) > 0) hold(11, m + " has some sixty lines at most", lineOf(node, true) - lineOf(node, false) < MOST_LINES, node);
        if (node.getReturnType() != null) holdType(node.getReturnType());
        calls.computeIfAbsent(m, x -> new LinkedHashSet<>());
        noteOverriding(m);
        return super.visitMethod(node, none);
    }

    /** The methods above that this one stands in for: a call of one of them may run this one. */
    private void noteOverriding(ExecutableElement m) {
        TypeMirror above = ((TypeElement) m.getEnclosingElement()).getSuperclass();
        while (m.getKind() == ElementKind.METHOD && above instanceof DeclaredType d && isOwn(above)) {
            for (Element e : d.asElement().getEnclosedElements())
                if (e instanceof ExecutableElement other && other.toString().equals(m.toString()))
                    overriders.computeIfAbsent(other, x -> new ArrayList<>()).add(m);
            above = ((TypeElement) d.asElement()).getSuperclass();
        }
    }

    @Override
    public Void visitVariable(VariableTree node, Void none) {
        holdType(node.getType());
        boolean isField = getCurrentPath().getParentPath().getLeaf() instanceof ClassTree;
        Set<Modifier> flags = node.getModifiers().getFlags();
        if (isField && flags.contains(Modifier.STATIC)) {
            TypeKind kind = typeOf(node.getType()).getKind();
            hold(5, node.getName() + " is a constant number", flags.contains(Modifier.FINAL) && (kind == TypeKind.INT || kind == TypeKind.LONG)
                && node.getInitializer() != null, node);
        }
        return super.visitVariable(node, none);
    }

    /** Rule 3; the class has no use for texts, lists and fractions of the machine's own. */
    private void holdType(Tree tree) {
        hold(3, "a type is written out", tree != null, tree);
        if (tree == null) return;
        TypeMirror type = typeOf(tree);
        hold(3, type + " is a type of the rules", isAllowed(type), tree);
    }

    private static boolean isAllowed(TypeMirror type) {
        TypeMirror item = type;
        int deep = 0;
        while (item instanceof ArrayType a) {
            item = a.getComponentType();
            deep++;
        }
        TypeKind kind = item.getKind();
        boolean isWhole = kind == TypeKind.INT || kind == TypeKind.LONG || kind == TypeKind.BYTE;
        if (deep == 0 && (kind == TypeKind.VOID || kind == TypeKind.BOOLEAN)) return true;
        return isWhole && deep <= 2 || isOwn(item) && deep <= 1;
    }

    // ---- rules 4, 8, 11: calls

    @Override
    public Void visitMethodInvocation(MethodInvocationTree node, Void none) {
        Element e = elementOf(node.getMethodSelect());
        String name = e.getEnclosingElement().getSimpleName() + "." + e.getSimpleName();
        boolean isPlainStart = e.getKind() == ElementKind.CONSTRUCTOR;
        hold(4, name + " is of the library that the rules list", isOwn(e) || isPlainStart || LIBRARY.contains(name), node);
        ExecutableElement from = methodAround();
        if (isOwn(e) && from != null) {
            Set<ExecutableElement> to = calls.computeIfAbsent(from, x -> new LinkedHashSet<>());
            to.add((ExecutableElement) e);
            boolean isSuper = node.getMethodSelect().toString().startsWith("super");
            if (!isSuper) openCalls.add(new ExecutableElement[] {from, (ExecutableElement) e});
        }
        return super.visitMethodInvocation(node, none);
    }

    @Override
    public Void visitNewClass(NewClassTree node, Void none) {
        hold(2, "no class without a name", node.getClassBody() == null, node);
        hold(3, "objects of own classes alone", isOwn(typeOf(node.getIdentifier())), node);
        hold(12, "no object is made in a loop", !isInLoop(), node);
        Element e = trees.getElement(getCurrentPath());
        ExecutableElement from = methodAround();
        if (from != null && e instanceof ExecutableElement made) calls.computeIfAbsent(from, x -> new LinkedHashSet<>()).add(made);
        return super.visitNewClass(node, none);
    }

    @Override
    public Void visitNewArray(NewArrayTree node, Void none) {
        hold(12, "no array is made in a loop", !isInLoop(), node);
        return super.visitNewArray(node, none);
    }

    // ---- rules 2, 6, 9: what is left out, and loops

    @Override
    public Void visitLambdaExpression(LambdaExpressionTree node, Void none) {
        hold(2, "no lambda", false, node);
        return super.visitLambdaExpression(node, none);
    }

    @Override
    public Void visitMemberReference(MemberReferenceTree node, Void none) {
        hold(2, "no method reference", false, node);
        return super.visitMemberReference(node, none);
    }

    @Override
    public Void visitThrow(ThrowTree node, Void none) {
        hold(6, "no throw", false, node);
        return super.visitThrow(node, none);
    }

    @Override
    public Void visitTry(TryTree node, Void none) {
        hold(6, "no try", false, node);
        return super.visitTry(node, none);
    }

    @Override
    public Void visitSynchronized(SynchronizedTree node, Void none) {
        hold(6, "no synchronized", false, node);
        return super.visitSynchronized(node, none);
    }

    @Override
    public Void visitAssert(AssertTree node, Void none) {
        hold(6, "no assert", false, node);
        return super.visitAssert(node, none);
    }

    @Override
    public Void visitTypeCast(TypeCastTree node, Void none) {
        hold(6, "casts of numbers alone, which are always safe", typeOf(node.getType()).getKind().isPrimitive(), node);
        return super.visitTypeCast(node, none);
    }

    /** A counter that goes by one towards a bound, and that nothing else in the loop alters, has an end. */
    @Override
    public Void visitForLoop(ForLoopTree node, Void none) {
        String step = node.getUpdate().size() == 1 ? node.getUpdate().get(0).toString() : "";
        String counter = step.replaceAll("\\+\\+;?|--;?", "");
        boolean isUp = step.contains("++");
        String bound = node.getCondition() == null ? "" : node.getCondition().toString();
        hold(9, "the counter goes by one towards its bound: for (..; " + bound + "; " + step + ")",
            !counter.isEmpty() && bound.matches(".*\\b" + counter + (isUp ? " <=? .*" : " >=? .*")) && !bound.contains("||"), node);
        hold(9, "nothing else alters " + counter, !assignedIn(node.getStatement()).contains(counter), node);
        return super.visitForLoop(node, none);
    }

    private Set<String> assignedIn(Tree body) {
        Set<String> names = new TreeSet<>();
        new com.sun.source.util.TreeScanner<Void, Void>() {
            @Override
            public Void visitAssignment(AssignmentTree node, Void none) {
                names.add(node.getVariable().toString());
                return super.visitAssignment(node, none);
            }

            @Override
            public Void visitCompoundAssignment(com.sun.source.tree.CompoundAssignmentTree node, Void none) {
                names.add(node.getVariable().toString());
                return super.visitCompoundAssignment(node, none);
            }

            @Override
            public Void visitUnary(com.sun.source.tree.UnaryTree node, Void none) {
                if (node.getKind().name().endsWith("CREMENT")) names.add(node.getExpression().toString());
                return super.visitUnary(node, none);
            }
        }.scan(body, null);
        return names;
    }

    @Override
    public Void visitWhileLoop(WhileLoopTree node, Void none) {
        hold(9, "a loop shows its end as for does", false, node);
        return super.visitWhileLoop(node, none);
    }

    @Override
    public Void visitDoWhileLoop(DoWhileLoopTree node, Void none) {
        hold(9, "a loop shows its end as for does", false, node);
        return super.visitDoWhileLoop(node, none);
    }

    /** Rule 7: what divides is a constant, or is one of these, each looked at just ahead of it. */
    @Override
    public Void visitBinary(BinaryTree node, Void none) {
        if (node.getKind() == Tree.Kind.DIVIDE || node.getKind() == Tree.Kind.REMAINDER) {
            String divisor = node.getRightOperand().toString();
            hold(7, "a divisor that is looked at: " + divisor, Set.of("2", "INPUT_BASE", "m.states", "divisor", "y").contains(divisor), node);
        }
        return super.visitBinary(node, none);
    }

    // ---- what can be told of the whole alone

    void whole() {
        hold(11, "the file has some twelve classes at most, there are " + classes.size(), classes.size() <= MOST_CLASSES, null);
        for (String name : otherNames) hold(1, name + " is no public name", !publicNames.contains(name), null);
        hold(1, "the face's methods are found", publicNames.size() == Document.PROMISES - 1, null);
        for (ExecutableElement[] call : openCalls) calls.get(call[0]).addAll(overriders.getOrDefault(call[1], List.of()));
        int deepest = 0;
        for (ExecutableElement m : List.copyOf(calls.keySet())) deepest = Math.max(deepest, depthFrom(m, new ArrayList<>()));
        hold(11, "calls go at most eight deep, they go " + deepest, deepest <= MOST_DEEP, null);
    }

    private int depthFrom(ExecutableElement m, List<ExecutableElement> open) {
        hold(8, m + " does not come back to itself", !open.contains(m), null);
        if (open.contains(m)) return 0;
        open.add(m);
        int most = 0;
        for (ExecutableElement to : calls.getOrDefault(m, Set.of())) most = Math.max(most, depthFrom(to, open));
        open.remove(open.size() - 1);
        return most + 1;
    }
}
