import com.sun.source.tree.BinaryTree;
import com.sun.source.tree.BlockTree;
import com.sun.source.tree.ClassTree;
import com.sun.source.tree.CompilationUnitTree;
import com.sun.source.tree.MethodInvocationTree;
import com.sun.source.tree.MethodTree;
import com.sun.source.tree.NewArrayTree;
import com.sun.source.tree.NewClassTree;
import com.sun.source.tree.Tree;
import com.sun.source.tree.VariableTree;
import com.sun.source.util.JavacTask;
import com.sun.source.util.SourcePositions;
import com.sun.source.util.TreePath;
import com.sun.source.util.TreePathScanner;
import com.sun.source.util.Trees;
import java.io.File;
import java.io.IOException;
import java.util.ArrayList;
import java.util.EnumSet;
import java.util.HashMap;
import java.util.HashSet;
import java.util.List;
import java.util.Map;
import java.util.Set;
import javax.lang.model.element.Element;
import javax.lang.model.element.ElementKind;
import javax.lang.model.element.Modifier;
import javax.tools.JavaCompiler;
import javax.tools.StandardJavaFileManager;
import javax.tools.ToolProvider;

/**
 * What of ../shared/LANGUAGE.md can be seen from the source, which the compiler itself reads here;
 * where it is, the property "source" tells. What may throw, and where a loop ends, is not seen so.
 */
public final class LanguageTests {
    private static final int MOST_LINES = 60;
    private static final int MOST_PARAMETERS = 7;
    private static final int MOST_DEPTH = 8;
    private static final int MOST_CLASSES = 12;
    private static final int MOST_FIELDS = 20;
    private static final Set<Tree.Kind> NOT_ALLOWED = EnumSet.of(Tree.Kind.IMPORT, Tree.Kind.PACKAGE,
        Tree.Kind.THROW, Tree.Kind.TRY, Tree.Kind.CATCH, Tree.Kind.SYNCHRONIZED, Tree.Kind.ASSERT,
        Tree.Kind.LAMBDA_EXPRESSION, Tree.Kind.MEMBER_REFERENCE, Tree.Kind.UNION_TYPE,
        Tree.Kind.INTERSECTION_TYPE, Tree.Kind.ANNOTATION);
    /** Of the library, what the program calls; LANGUAGE.md, rule 4, allows more. */
    private static final Set<String> LIBRARY = Set.of("java.lang.Object.<init>", "java.lang.String.charAt",
        "java.lang.String.length", "java.lang.Integer.bitCount", "java.lang.Math.floorMod");

    private static final Map<Element, Set<Element>> calls = new HashMap<>();
    private static int classes = 0;
    private static int methods = 0;

    public static void main(String[] args) throws IOException {
        JavaCompiler compiler = ToolProvider.getSystemJavaCompiler();
        try (StandardJavaFileManager files = compiler.getStandardFileManager(null, null, null)) {
            File source = new File(System.getProperty("source", "src/main/java/ChairNames.java"));
            JavacTask task = (JavacTask) compiler.getTask(null, files, null, List.of("-proc:none"), null,
                files.getJavaFileObjects(source));
            List<CompilationUnitTree> units = new ArrayList<>();
            task.parse().forEach(units::add);
            task.analyze();
            Reader reader = new Reader(Trees.instance(task));
            units.forEach(unit -> reader.scan(unit, null));
        }
        if (classes > MOST_CLASSES) {
            Checks.tell("rule 11: " + classes + " classes");
        }
        for (Element method : calls.keySet()) {
            depthOf(method, new HashSet<>());
        }
        Checks.end("LanguageTests (" + classes + " classes, " + methods + " methods)");
    }

    /** How many calls stand open from a method on; a method that stands open already is a recursion. */
    private static int depthOf(Element method, Set<Element> open) {
        if (!open.add(method)) {
            Checks.tell("rule 8: " + told(method) + " calls itself");
            return 1;
        }
        int deepest = 0;
        for (Element called : calls.getOrDefault(method, Set.of())) {
            deepest = Math.max(deepest, depthOf(called, open));
        }
        open.remove(method);
        if (deepest + 1 > MOST_DEPTH) {
            Checks.tell("rule 11: the calls of " + told(method) + " go " + (deepest + 1) + " deep");
        }
        return deepest + 1;
    }

    private static String told(Element member) {
        return member.getEnclosingElement() + "." + member.getSimpleName();
    }

    private static final class Reader extends TreePathScanner<Void, Void> {
        private final Trees trees;
        private Element method;

        Reader(Trees trees) {
            this.trees = trees;
        }

        @Override
        public Void scan(Tree tree, Void none) {
            if (tree != null && NOT_ALLOWED.contains(tree.getKind())) {
                Checks.tell("rules 1 to 6: " + tree.getKind() + " in " + method + ": " + tree);
            }
            return super.scan(tree, none);
        }

        @Override
        public Void visitClass(ClassTree tree, Void none) {
            classes++;
            Element type = elementOf(tree);
            boolean inside = type.getEnclosingElement().getKind().isClass();
            if (inside && !type.getModifiers().contains(Modifier.STATIC) || type.getSimpleName().length() == 0) {
                Checks.tell("rule 2: " + type + " is an inner, local or anonymous class");
            }
            int fields = 0;
            for (Element member : type.getEnclosedElements()) {
                fields += member.getKind() == ElementKind.FIELD && !isStatic(member) ? 1 : 0;
                checkStatic(member);
                checkName(member, inside);
            }
            if (fields > MOST_FIELDS) {
                Checks.tell("rule 11: " + type + " has " + fields + " fields");
            }
            return super.visitClass(tree, none);
        }

        private void checkStatic(Element member) {
            if (member.getKind() != ElementKind.FIELD || !isStatic(member)) {
                return;
            }
            if (!member.getModifiers().contains(Modifier.FINAL)
                || !member.asType().toString().matches("(int|long|boolean|char|java.lang.String|(int|long|char|byte)\\[\\])")) {
                Checks.tell("rule 5: " + told(member) + " is not a constant");
            }
        }

        private void checkName(Element member, boolean inside) {
            boolean shown = member.getKind() == ElementKind.METHOD && !inside
                && member.getModifiers().contains(Modifier.PUBLIC);
            if (member.getKind() == ElementKind.METHOD && !shown && isPublicName(member.getSimpleName().toString())) {
                Checks.tell("rule 1: " + told(member) + " bears the name of a public method");
            }
            if (Set.of("equals", "hashCode", "toString").contains(member.getSimpleName().toString())) {
                Checks.tell("rule 6: " + told(member));
            }
        }

        @Override
        public Void visitMethod(MethodTree tree, Void none) {
            methods++;
            Element outer = method;
            method = elementOf(tree);
            calls.putIfAbsent(method, new HashSet<>());
            if (tree.getParameters().size() > MOST_PARAMETERS) {
                Checks.tell("rule 11: " + told(method) + " takes " + tree.getParameters().size() + " parameters");
            }
            if (linesOf(tree) > MOST_LINES) {
                Checks.tell("rule 11: " + told(method) + " has " + linesOf(tree) + " lines");
            }
            super.visitMethod(tree, none);
            method = outer;
            return null;
        }

        @Override
        public Void visitBlock(BlockTree tree, Void none) {
            if (tree.isStatic()) {
                Checks.tell("rule 5: a static initialiser block");
            }
            return super.visitBlock(tree, none);
        }

        @Override
        public Void visitMethodInvocation(MethodInvocationTree tree, Void none) {
            call(elementOf(tree));
            return super.visitMethodInvocation(tree, none);
        }

        @Override
        public Void visitNewClass(NewClassTree tree, Void none) {
            call(elementOf(tree));
            madeOnlyAtFirst(tree);
            return super.visitNewClass(tree, none);
        }

        @Override
        public Void visitNewArray(NewArrayTree tree, Void none) {
            madeOnlyAtFirst(tree);
            return super.visitNewArray(tree, none);
        }

        @Override
        public Void visitVariable(VariableTree tree, Void none) {
            String type = elementOf(tree).asType().toString();
            String own = "ChairNames(\\.\\w+)?(\\[\\])?";
            if (!type.matches("(int|long|short|byte|char|boolean|double|float)(\\[\\])?|java.lang.String|" + own)) {
                Checks.tell("rule 3: " + tree + " in " + method);
            }
            return super.visitVariable(tree, none);
        }

        @Override
        public Void visitBinary(BinaryTree tree, Void none) {
            boolean texts = isText(tree.getLeftOperand()) || isText(tree.getRightOperand());
            if (texts && Set.of(Tree.Kind.PLUS, Tree.Kind.EQUAL_TO, Tree.Kind.NOT_EQUAL_TO).contains(tree.getKind())) {
                Checks.tell("rules 6 and 10: " + tree + " in " + method);
            }
            return super.visitBinary(tree, none);
        }

        private boolean isText(Tree operand) {
            return "java.lang.String".equals(
                String.valueOf(trees.getTypeMirror(new TreePath(getCurrentPath(), operand))));
        }

        /** Rule 12 counts what is made; here no call makes anything. */
        private void madeOnlyAtFirst(Tree tree) {
            if (method != null && method.getKind() != ElementKind.CONSTRUCTOR) {
                Checks.tell("rule 12: " + told(method) + " makes " + tree);
            }
        }

        private void call(Element called) {
            String name = told(called);
            if (name.startsWith("ChairNames")) {
                if (method != null) {
                    calls.get(method).add(called);
                }
            } else if (!LIBRARY.contains(name)) {
                Checks.tell("rule 4: " + name + " in " + method);
            }
        }

        private Element elementOf(Tree tree) {
            return trees.getElement(tree == getCurrentPath().getLeaf() ? getCurrentPath()
                : new TreePath(getCurrentPath(), tree));
        }

        private long linesOf(Tree tree) {
            CompilationUnitTree unit = getCurrentPath().getCompilationUnit();
            SourcePositions at = trees.getSourcePositions();
            return unit.getLineMap().getLineNumber(at.getEndPosition(unit, tree))
                - unit.getLineMap().getLineNumber(at.getStartPosition(unit, tree)) + 1;
        }

        private static boolean isStatic(Element member) {
            return member.getModifiers().contains(Modifier.STATIC);
        }

        private static boolean isPublicName(String name) {
            for (int kind = 0; kind < Calls.kinds(); kind++) {
                if (Calls.nameOf(kind).equals(name)) {
                    return true;
                }
            }
            return false;
        }
    }
}
