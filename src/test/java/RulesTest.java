import com.sun.source.tree.AssertTree;
import com.sun.source.tree.BinaryTree;
import com.sun.source.tree.ClassTree;
import com.sun.source.tree.CompilationUnitTree;
import com.sun.source.tree.CompoundAssignmentTree;
import com.sun.source.tree.ConditionalExpressionTree;
import com.sun.source.tree.ExpressionTree;
import com.sun.source.tree.IfTree;
import com.sun.source.tree.ImportTree;
import com.sun.source.tree.LambdaExpressionTree;
import com.sun.source.tree.LiteralTree;
import com.sun.source.tree.MemberReferenceTree;
import com.sun.source.tree.MethodInvocationTree;
import com.sun.source.tree.MethodTree;
import com.sun.source.tree.NewArrayTree;
import com.sun.source.tree.NewClassTree;
import com.sun.source.tree.SynchronizedTree;
import com.sun.source.tree.ThrowTree;
import com.sun.source.tree.Tree;
import com.sun.source.tree.TryTree;
import com.sun.source.tree.TypeCastTree;
import com.sun.source.tree.VariableTree;
import com.sun.source.util.JavacTask;
import com.sun.source.util.TreePath;
import com.sun.source.util.TreePathScanner;
import com.sun.source.util.Trees;
import java.io.File;
import java.io.IOException;
import java.util.ArrayDeque;
import java.util.Deque;
import java.util.HashMap;
import java.util.List;
import java.util.Map;
import java.util.Set;
import java.util.TreeSet;
import javax.lang.model.element.Element;
import javax.lang.model.element.ElementKind;
import javax.lang.model.element.Modifier;
import javax.lang.model.type.TypeKind;
import javax.lang.model.type.TypeMirror;
import javax.tools.JavaCompiler;
import javax.tools.StandardJavaFileManager;
import javax.tools.ToolProvider;

/** The rules of ../shared/LANGUAGE.md that the compiler's own tree of the class shows. */
public final class RulesTest {
    private static final Set<String> LIBRARY = Set.of("java.lang.Math.max", "java.lang.Math.min", "java.lang.System.arraycopy");
    private static final int DEEPEST = 8;

    public static void main(String[] args) throws IOException {
        Seen seen = new Seen();
        JavaCompiler compiler = ToolProvider.getSystemJavaCompiler();
        try (StandardJavaFileManager files = compiler.getStandardFileManager(null, null, null)) {
            JavacTask task = (JavacTask) compiler.getTask(null, files, null, List.of("-proc:none"), null,
                files.getJavaFileObjects(new File("src/main/java/HarbourMud.java")));
            Iterable<? extends CompilationUnitTree> units = task.parse();
            task.analyze();
            seen.trees = Trees.instance(task);
            for (CompilationUnitTree unit : units) {
                Checks.same("no package line", String.valueOf(unit.getPackageName()), "null");
                seen.scan(unit, null);
            }
        }
        Checks.same("what rules 2 to 6 leave out", seen.leftOut.toString(), "[]");
        Checks.same("objects made elsewhere than in a constructor", seen.madeInMethods.toString(), "[]");
        Checks.same("what it calls of the library beside what rule 4 lists", seen.library.toString(), "[]");
        Checks.yes("calls are seen", seen.calls.size() > 80);
        names(seen);
        depths(seen);
        Checks.end("RulesTest");
    }

    /** Rule 1: none of the class's own methods bears the name of a public one. */
    private static void names(Seen seen) {
        Set<String> twice = new TreeSet<>(seen.ownNames);
        twice.retainAll(seen.publicNames);
        Checks.due("public methods", seen.publicNames.size(), 29);
        Checks.same("own methods with the name of a public one", twice.toString(), "[]");
    }

    /** Rules 8 and 11: no method comes back to itself, and calls go at most eight deep, the library's counted. */
    private static void depths(Seen seen) {
        for (String method : seen.calls.keySet()) {
            int depth = depthOf(method, seen.calls, new ArrayDeque<>());
            Checks.yes(method + " goes " + depth + " deep", depth <= DEEPEST);
        }
    }

    private static int depthOf(String method, Map<String, Set<String>> calls, Deque<String> open) {
        if (open.contains(method)) {
            Checks.yes(method + " does not come back to itself", false);
            return DEEPEST + 1;
        }
        open.push(method);
        int most = 0;
        for (String called : calls.getOrDefault(method, Set.of())) {
            most = Math.max(most, depthOf(called, calls, open));
        }
        open.pop();
        return most + 1;
    }

    private static final class Seen extends TreePathScanner<Void, Void> {
        Trees trees;
        final Set<String> leftOut = new TreeSet<>();
        final Set<String> madeInMethods = new TreeSet<>();
        final Set<String> library = new TreeSet<>();
        final Set<String> publicNames = new TreeSet<>();
        final Set<String> ownNames = new TreeSet<>();
        final Map<String, Set<String>> calls = new HashMap<>();
        private String method = "";

        private void leave(String what, Tree tree) {
            leftOut.add(what + " " + String.valueOf(tree).replaceAll("\\s+", " "));
        }

        private static String nameOf(Element method) {
            return method.getEnclosingElement() + "." + method;
        }

        @Override public Void visitMethod(MethodTree tree, Void nothing) {
            Element element = trees.getElement(getCurrentPath());
            boolean isConstructor = element.getKind() == ElementKind.CONSTRUCTOR;
            if (!isConstructor) {
                (element.getModifiers().contains(Modifier.PUBLIC) ? publicNames : ownNames).add(tree.getName().toString());
            }
            method = isConstructor ? "" : nameOf(element);
            calls.put(nameOf(element), new TreeSet<>());
            super.visitMethod(tree, nothing);
            method = "";
            return null;
        }

        @Override public Void visitMethodInvocation(MethodInvocationTree tree, Void nothing) {
            Element called = trees.getElement(getCurrentPath());
            String name = nameOf(called);
            if (!method.isEmpty()) {
                calls.get(method).add(name);
            }
            boolean isOwn = called.getEnclosingElement().toString().startsWith("HarbourMud");
            // each constructor begins with a call of the class above
            if (!isOwn && called.getKind() != ElementKind.CONSTRUCTOR && !LIBRARY.contains(name.replaceAll("\\(.*", ""))) {
                library.add(name);
            }
            return super.visitMethodInvocation(tree, nothing);
        }

        @Override public Void visitClass(ClassTree tree, Void nothing) {
            Tree around = getCurrentPath().getParentPath().getLeaf();
            boolean isOuter = around instanceof CompilationUnitTree;
            if (!isOuter && !(around instanceof ClassTree && tree.getModifiers().getFlags().contains(Modifier.STATIC))) {
                leave("a class that is not static, local or without a name", tree);
            }
            return super.visitClass(tree, nothing);
        }

        @Override public Void visitVariable(VariableTree tree, Void nothing) {
            Element element = trees.getElement(getCurrentPath());
            TypeMirror type = element.asType();
            boolean isStatic = element.getModifiers().contains(Modifier.STATIC);
            boolean isConstant = element.getModifiers().contains(Modifier.FINAL) && type.getKind().isPrimitive();
            if (isStatic && !isConstant) {
                leave("static state", tree);
            }
            // fewer types than rule 3 lists: one more that it lists may be added here once it is needed
            boolean isNumberOrOwn = type.getKind() == TypeKind.INT || type.getKind() == TypeKind.LONG
                || type.getKind() == TypeKind.BOOLEAN || type.getKind() == TypeKind.CHAR || type.toString().equals("int[]")
                || type.toString().startsWith("HarbourMud.");
            if (!isNumberOrOwn) {
                leave("a type", tree);
            }
            return super.visitVariable(tree, nothing);
        }

        @Override public Void visitNewClass(NewClassTree tree, Void nothing) {
            made(tree);
            return super.visitNewClass(tree, nothing);
        }

        @Override public Void visitNewArray(NewArrayTree tree, Void nothing) {
            made(tree);
            return super.visitNewArray(tree, nothing);
        }

        private void made(Tree tree) {
            if (!method.isEmpty()) {
                madeInMethods.add(method + ": " + tree);
            }
        }

        @Override public Void visitBinary(BinaryTree tree, Void nothing) {
            if (tree.getKind() == Tree.Kind.DIVIDE || tree.getKind() == Tree.Kind.REMAINDER) {
                divisor(tree.getRightOperand());
            }
            return super.visitBinary(tree, nothing);
        }

        @Override public Void visitCompoundAssignment(CompoundAssignmentTree tree, Void nothing) {
            if (tree.getKind() == Tree.Kind.DIVIDE_ASSIGNMENT || tree.getKind() == Tree.Kind.REMAINDER_ASSIGNMENT) {
                divisor(tree.getExpression());
            }
            return super.visitCompoundAssignment(tree, nothing);
        }

        /** A number other than 0, or one that a condition around it looks at. */
        private void divisor(ExpressionTree divisor) {
            boolean isFine = divisor instanceof LiteralTree && !String.valueOf(((LiteralTree) divisor).getValue()).equals("0");
            for (TreePath path = getCurrentPath(); path != null && !isFine; path = path.getParentPath()) {
                Tree leaf = path.getLeaf();
                ExpressionTree condition = leaf instanceof IfTree ? ((IfTree) leaf).getCondition()
                    : leaf instanceof ConditionalExpressionTree ? ((ConditionalExpressionTree) leaf).getCondition() : null;
                isFine = condition != null && condition.toString().contains(divisor.toString());
            }
            if (!isFine) {
                leave("a divisor that nobody looks at", divisor);
            }
        }

        @Override public Void visitTypeCast(TypeCastTree tree, Void nothing) {
            if (!trees.getTypeMirror(new TreePath(getCurrentPath(), tree.getType())).getKind().isPrimitive()) {
                leave("a cast of objects", tree);
            }
            return super.visitTypeCast(tree, nothing);
        }

        @Override public Void visitImport(ImportTree tree, Void nothing) {
            leave("import", tree);
            return super.visitImport(tree, nothing);
        }

        @Override public Void visitLambdaExpression(LambdaExpressionTree tree, Void nothing) {
            leave("lambda", tree);
            return super.visitLambdaExpression(tree, nothing);
        }

        @Override public Void visitMemberReference(MemberReferenceTree tree, Void nothing) {
            leave("method reference", tree);
            return super.visitMemberReference(tree, nothing);
        }

        @Override public Void visitThrow(ThrowTree tree, Void nothing) {
            leave("throw", tree);
            return super.visitThrow(tree, nothing);
        }

        @Override public Void visitTry(TryTree tree, Void nothing) {
            leave("try", tree);
            return super.visitTry(tree, nothing);
        }

        @Override public Void visitAssert(AssertTree tree, Void nothing) {
            leave("assert", tree);
            return super.visitAssert(tree, nothing);
        }

        @Override public Void visitSynchronized(SynchronizedTree tree, Void nothing) {
            leave("synchronized", tree);
            return super.visitSynchronized(tree, nothing);
        }
    }
}
