import com.sun.source.tree.AnnotationTree;
import com.sun.source.tree.ArrayAccessTree;
import com.sun.source.tree.AssertTree;
import com.sun.source.tree.AssignmentTree;
import com.sun.source.tree.BinaryTree;
import com.sun.source.tree.BlockTree;
import com.sun.source.tree.CatchTree;
import com.sun.source.tree.ClassTree;
import com.sun.source.tree.CompilationUnitTree;
import com.sun.source.tree.CompoundAssignmentTree;
import com.sun.source.tree.DoWhileLoopTree;
import com.sun.source.tree.ExpressionTree;
import com.sun.source.tree.ForLoopTree;
import com.sun.source.tree.IdentifierTree;
import com.sun.source.tree.ImportTree;
import com.sun.source.tree.LambdaExpressionTree;
import com.sun.source.tree.LineMap;
import com.sun.source.tree.LiteralTree;
import com.sun.source.tree.MemberReferenceTree;
import com.sun.source.tree.MethodInvocationTree;
import com.sun.source.tree.MethodTree;
import com.sun.source.tree.NewArrayTree;
import com.sun.source.tree.NewClassTree;
import com.sun.source.tree.ParenthesizedTree;
import com.sun.source.tree.SynchronizedTree;
import com.sun.source.tree.ThrowTree;
import com.sun.source.tree.Tree;
import com.sun.source.tree.TryTree;
import com.sun.source.tree.VariableTree;
import com.sun.source.tree.WhileLoopTree;
import com.sun.source.util.JavacTask;
import com.sun.source.util.TreePath;
import com.sun.source.util.TreePathScanner;
import com.sun.source.util.Trees;
import java.io.File;
import java.io.IOException;
import java.util.HashMap;
import java.util.HashSet;
import java.util.List;
import java.util.Map;
import java.util.Set;
import javax.lang.model.element.Element;
import javax.lang.model.element.ElementKind;
import javax.lang.model.element.Modifier;
import javax.lang.model.element.VariableElement;
import javax.lang.model.type.ArrayType;
import javax.lang.model.type.TypeKind;
import javax.lang.model.type.TypeMirror;
import javax.tools.JavaCompiler;
import javax.tools.StandardJavaFileManager;
import javax.tools.ToolProvider;

/**
 * Holds src/main/java/GrowingUrns.java against what can be read off a file of the rules of LANGUAGE.md, and against
 * what this project asks beyond them: nothing is thrown or caught, nothing calls itself, and objects and arrays are
 * made by constructors alone. So it takes in less than the rules allow: what is new in the class may need a line here.
 */
public final class LanguageTest {
    private static final String FILE = "src/main/java/GrowingUrns.java";

    private static final Set<String> LIBRARY = Set.of("System.arraycopy", "Arrays.fill", "Arrays.copyOf",
        "Arrays.copyOfRange", "Math.max", "Math.min", "Math.abs", "Math.floorDiv", "Math.floorMod", "Long.compare",
        "Integer.compare");
    private static final Set<TypeKind> NUMBERS = Set.of(TypeKind.INT, TypeKind.LONG, TypeKind.SHORT, TypeKind.BYTE,
        TypeKind.CHAR, TypeKind.BOOLEAN);
    private static final Set<TypeKind> FIXED_ROWS = Set.of(TypeKind.INT, TypeKind.LONG, TypeKind.CHAR, TypeKind.BYTE);
    private static final Set<String> NOT_OWN = Set.of("equals", "hashCode", "toString", "finalize", "clone");
    private static final int MOST_LINES = 60, MOST_PARAMETERS = 7, MOST_CLASSES = 12, MOST_FIELDS = 20, MOST_DEEP = 8;

    private static int looked = 0;
    private static int wrong = 0;

    private static void due(int rule, String what, boolean holds) {
        looked++;
        if (!holds) {
            wrong++;
            System.out.println("rule " + rule + ": " + what);
        }
    }

    /** Looks at each piece of the file once, and keeps which method calls which. */
    private static final class Reader extends TreePathScanner<Void, Void> {
        final Trees trees;
        final CompilationUnitTree unit;
        final LineMap lines;
        final Map<Element, Set<Element>> calls = new HashMap<>();
        final Set<String> inside = new HashSet<>();
        int classes = 0;

        Reader(Trees trees, CompilationUnitTree unit) {
            this.trees = trees;
            this.unit = unit;
            this.lines = unit.getLineMap();
        }

        private long lineOf(Tree tree) {
            return lines.getLineNumber(trees.getSourcePositions().getStartPosition(unit, tree));
        }

        private String at(Tree tree, String what) {
            return "line " + lineOf(tree) + ": " + what;
        }

        private Element meant(Tree tree) {
            return trees.getElement(new TreePath(getCurrentPath(), tree));
        }

        private TypeMirror typeOf(Tree tree) {
            return trees.getTypeMirror(new TreePath(getCurrentPath(), tree));
        }

        private boolean isOwn(Element element) {
            Element top = element;
            while (top != null && top.getEnclosingElement() != null
                && top.getEnclosingElement().getKind() != ElementKind.PACKAGE) {
                top = top.getEnclosingElement();
            }
            return top != null && top.getSimpleName().contentEquals("GrowingUrns");
        }

        private MethodTree methodAround() {
            for (TreePath path = getCurrentPath(); path != null; path = path.getParentPath()) {
                if (path.getLeaf() instanceof MethodTree) {
                    return (MethodTree) path.getLeaf();
                }
            }
            return null;
        }

        /** Own classes, numbers and rows of both; rows of rows of numbers alone. */
        private boolean mayBe(TypeMirror type) {
            if (type.getKind() == TypeKind.ARRAY) {
                TypeMirror of = ((ArrayType) type).getComponentType();
                return mayBe(of) && (of.getKind() != TypeKind.ARRAY
                    || NUMBERS.contains(((ArrayType) of).getComponentType().getKind()));
            }
            return NUMBERS.contains(type.getKind())
                || type.getKind() == TypeKind.DECLARED && inside.contains(type.toString());
        }

        private boolean inConstructor() {
            MethodTree around = methodAround();
            return around == null || around.getReturnType() == null;
        }

        private void refuse(int rule, Tree tree, String what) {
            due(rule, at(tree, what), false);
        }

        @Override
        public Void visitClass(ClassTree tree, Void none) {
            classes++;
            boolean top = getCurrentPath().getParentPath().getLeaf() instanceof CompilationUnitTree;
            boolean member = getCurrentPath().getParentPath().getLeaf() instanceof ClassTree;
            Set<Modifier> marks = tree.getModifiers().getFlags();
            due(2, at(tree, "a class inside a method"), top || member);
            due(1, at(tree, "a class inside is private or package-visible and static"), top
                || marks.contains(Modifier.STATIC) && !marks.contains(Modifier.PUBLIC)
                && !marks.contains(Modifier.PROTECTED));
            int fields = 0;
            for (Tree part : tree.getMembers()) {
                due(5, at(part, "a block of static or first values"), !(part instanceof BlockTree));
                if (part instanceof VariableTree
                    && !((VariableTree) part).getModifiers().getFlags().contains(Modifier.STATIC)) {
                    fields++;
                }
            }
            due(11, at(tree, fields + " fields"), fields <= MOST_FIELDS);
            return super.visitClass(tree, none);
        }

        @Override
        public Void visitMethod(MethodTree tree, Void none) {
            Element own = trees.getElement(getCurrentPath());
            calls.computeIfAbsent(own, made -> new HashSet<>());
            long first = lineOf(tree);
            long last = lines.getLineNumber(trees.getSourcePositions().getEndPosition(unit, tree));
            due(11, at(tree, "a method of " + (last - first + 1) + " lines"), last - first < MOST_LINES);
            due(11, at(tree, "parameters"), tree.getParameters().size() <= MOST_PARAMETERS);
            due(6, at(tree, "throws"), tree.getThrows().isEmpty());
            due(6, at(tree, "a method of all objects"), !NOT_OWN.contains(tree.getName().toString()));
            due(6, at(tree, "synchronized"), !tree.getModifiers().getFlags().contains(Modifier.SYNCHRONIZED));
            due(4, at(tree, "native"), !tree.getModifiers().getFlags().contains(Modifier.NATIVE));
            return super.visitMethod(tree, none);
        }

        @Override
        public Void visitVariable(VariableTree tree, Void none) {
            Element own = trees.getElement(getCurrentPath());
            due(3, at(tree, "the type of " + tree.getName()), own != null && mayBe(own.asType()));
            if (own != null && own.getModifiers().contains(Modifier.STATIC)) {
                due(5, at(tree, "a static field that is not final"), own.getModifiers().contains(Modifier.FINAL));
                due(5, at(tree, "a static field that is not written out"), isConstant(own, tree.getInitializer()));
            }
            return super.visitVariable(tree, none);
        }

        private boolean isConstant(Element own, ExpressionTree first) {
            if (own.asType().getKind() == TypeKind.ARRAY) {
                return first instanceof NewArrayTree && ((NewArrayTree) first).getInitializers() != null
                    && FIXED_ROWS.contains(((ArrayType) own.asType()).getComponentType().getKind());
            }
            return ((VariableElement) own).getConstantValue() != null;
        }

        @Override
        public Void visitMethodInvocation(MethodInvocationTree tree, Void none) {
            Element called = meant(tree.getMethodSelect());
            MethodTree around = methodAround();
            String name = String.valueOf(tree.getMethodSelect());
            if (called != null && isOwn(called)) {
                due(12, at(tree, "a constructor calls " + name), around != null && around.getReturnType() != null);
                if (around != null) {
                    Element caller = trees.getElement(trees.getPath(unit, around));
                    calls.computeIfAbsent(caller, made -> new HashSet<>()).add(called);
                }
            } else {
                due(4, at(tree, "the library: " + name), LIBRARY.contains(name) || name.equals("super"));
            }
            return super.visitMethodInvocation(tree, none);
        }

        @Override
        public Void visitNewClass(NewClassTree tree, Void none) {
            due(2, at(tree, "an anonymous class"), tree.getClassBody() == null);
            due(4, at(tree, "a new object of the library"), inside.contains(String.valueOf(typeOf(tree))));
            due(12, at(tree, "an object is made behind the constructors"), inConstructor());
            return super.visitNewClass(tree, none);
        }

        @Override
        public Void visitNewArray(NewArrayTree tree, Void none) {
            due(12, at(tree, "a row is made behind the constructors"), inConstructor());
            return super.visitNewArray(tree, none);
        }

        @Override
        public Void visitImport(ImportTree tree, Void none) {
            due(4, at(tree, "an import"), tree.getQualifiedIdentifier().toString().equals("java.util.Arrays")
                && !tree.isStatic());
            return super.visitImport(tree, none);
        }

        @Override
        public Void visitForLoop(ForLoopTree tree, Void none) {
            due(9, at(tree, "a for loop without a bound"), tree.getCondition() != null && !tree.getUpdate().isEmpty()
                && isBound(tree.getCondition()));
            return super.visitForLoop(tree, none);
        }

        @Override
        public Void visitWhileLoop(WhileLoopTree tree, Void none) {
            due(9, at(tree, "a while loop without a bound"), isBound(tree.getCondition()));
            return super.visitWhileLoop(tree, none);
        }

        @Override
        public Void visitDoWhileLoop(DoWhileLoopTree tree, Void none) {
            due(9, at(tree, "a do loop without a bound"), isBound(tree.getCondition()));
            return super.visitDoWhileLoop(tree, none);
        }

        /** A counter against a bound: one of the things asked, all joined by &&, is that something is below. */
        private boolean isBound(ExpressionTree asked) {
            Tree tree = asked;
            while (tree instanceof ParenthesizedTree) {
                tree = ((ParenthesizedTree) tree).getExpression();
            }
            if (!(tree instanceof BinaryTree)) {
                return false;
            }
            BinaryTree both = (BinaryTree) tree;
            if (both.getKind() == Tree.Kind.CONDITIONAL_AND) {
                return isBound(both.getLeftOperand()) || isBound(both.getRightOperand());
            }
            return both.getKind() == Tree.Kind.LESS_THAN || both.getKind() == Tree.Kind.LESS_THAN_EQUAL;
        }

        @Override
        public Void visitIdentifier(IdentifierTree tree, Void none) {
            due(1, at(tree, "the object hands itself out"), !tree.getName().contentEquals("this"));
            return super.visitIdentifier(tree, none);
        }

        @Override
        public Void visitAssignment(AssignmentTree tree, Void none) {
            notAConstantRow(tree.getVariable());
            return super.visitAssignment(tree, none);
        }

        @Override
        public Void visitCompoundAssignment(CompoundAssignmentTree tree, Void none) {
            notAConstantRow(tree.getVariable());
            return super.visitCompoundAssignment(tree, none);
        }

        private void notAConstantRow(ExpressionTree to) {
            if (to instanceof ArrayAccessTree) {
                Element row = meant(((ArrayAccessTree) to).getExpression());
                due(5, at(to, "a constant row is changed"),
                    row == null || !row.getModifiers().contains(Modifier.STATIC));
            }
        }

        @Override
        public Void visitLiteral(LiteralTree tree, Void none) {
            due(3, at(tree, "a text or a number with a point"), tree.getKind() != Tree.Kind.STRING_LITERAL
                && tree.getKind() != Tree.Kind.DOUBLE_LITERAL && tree.getKind() != Tree.Kind.FLOAT_LITERAL);
            return super.visitLiteral(tree, none);
        }

        @Override
        public Void visitLambdaExpression(LambdaExpressionTree tree, Void none) {
            refuse(2, tree, "a lambda");
            return super.visitLambdaExpression(tree, none);
        }

        @Override
        public Void visitMemberReference(MemberReferenceTree tree, Void none) {
            refuse(2, tree, "a method reference");
            return super.visitMemberReference(tree, none);
        }

        @Override
        public Void visitTry(TryTree tree, Void none) {
            refuse(6, tree, "a try");
            return super.visitTry(tree, none);
        }

        @Override
        public Void visitCatch(CatchTree tree, Void none) {
            refuse(6, tree, "a catch");
            return super.visitCatch(tree, none);
        }

        @Override
        public Void visitThrow(ThrowTree tree, Void none) {
            refuse(6, tree, "a throw, where the document names no exception");
            return super.visitThrow(tree, none);
        }

        @Override
        public Void visitAssert(AssertTree tree, Void none) {
            refuse(6, tree, "an assert");
            return super.visitAssert(tree, none);
        }

        @Override
        public Void visitSynchronized(SynchronizedTree tree, Void none) {
            refuse(6, tree, "synchronized");
            return super.visitSynchronized(tree, none);
        }

        @Override
        public Void visitAnnotation(AnnotationTree tree, Void none) {
            refuse(4, tree, "an annotation");
            return super.visitAnnotation(tree, none);
        }
    }

    /** How many calls stand open below this one; a method that is called again on the way is a recursion. */
    private static int deep(Element method, Map<Element, Set<Element>> calls, Set<Element> open) {
        if (!open.add(method)) {
            due(8, method + " calls itself", false);
            return 0;
        }
        int deepest = 0;
        for (Element called : calls.getOrDefault(method, Set.of())) {
            deepest = Math.max(deepest, 1 + deep(called, calls, open));
        }
        open.remove(method);
        return deepest;
    }

    private static void gatherClasses(ClassTree tree, String path, Set<String> names) {
        names.add(path);
        for (Tree part : tree.getMembers()) {
            if (part instanceof ClassTree) {
                gatherClasses((ClassTree) part, path + "." + ((ClassTree) part).getSimpleName(), names);
            }
        }
    }

    private static void read(JavacTask task) throws IOException {
        for (CompilationUnitTree unit : task.parse()) {
            task.analyze();
            due(1, "a package line", unit.getPackageName() == null);
            due(1, "one class, GrowingUrns, in the file", unit.getTypeDecls().size() == 1
                && ((ClassTree) unit.getTypeDecls().get(0)).getSimpleName().contentEquals("GrowingUrns"));
            Reader reader = new Reader(Trees.instance(task), unit);
            gatherClasses((ClassTree) unit.getTypeDecls().get(0), "GrowingUrns", reader.inside);
            reader.scan(unit, null);
            due(11, reader.classes + " classes", reader.classes <= MOST_CLASSES);
            int deepest = 0;
            for (Element method : reader.calls.keySet()) {
                deepest = Math.max(deepest, deep(method, reader.calls, new HashSet<>()));
            }
            // The least one shows that calls were seen at all.
            due(11, "calls go " + deepest + " deep", deepest >= 3 && deepest <= MOST_DEEP);
            String text = unit.getSourceFile().getCharContent(false).toString();
            due(4, "signs 10 and 32 to 126 alone",
                text.chars().allMatch(sign -> sign == 10 || sign > 31 && sign < 127));
        }
    }

    public static void main(String[] args) throws IOException {
        JavaCompiler compiler = ToolProvider.getSystemJavaCompiler();
        try (StandardJavaFileManager files = compiler.getStandardFileManager(null, null, null)) {
            read((JavacTask) compiler.getTask(null, files, null, List.of("-proc:none"), null,
                files.getJavaFileObjects(new File(args.length > 0 ? args[0] : FILE))));
        }
        System.out.println(wrong == 0 ? looked + " pieces of the file keep to the rules"
            : wrong + " pieces of the file do not keep to the rules");
        if (wrong != 0) {
            System.exit(1);
        }
    }
}
