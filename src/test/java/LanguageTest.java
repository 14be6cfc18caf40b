import com.sun.source.tree.AssertTree;
import com.sun.source.tree.BinaryTree;
import com.sun.source.tree.BlockTree;
import com.sun.source.tree.ClassTree;
import com.sun.source.tree.CompilationUnitTree;
import com.sun.source.tree.DoWhileLoopTree;
import com.sun.source.tree.EnhancedForLoopTree;
import com.sun.source.tree.ForLoopTree;
import com.sun.source.tree.ImportTree;
import com.sun.source.tree.LambdaExpressionTree;
import com.sun.source.tree.MemberReferenceTree;
import com.sun.source.tree.MethodInvocationTree;
import com.sun.source.tree.MethodTree;
import com.sun.source.tree.NewArrayTree;
import com.sun.source.tree.NewClassTree;
import com.sun.source.tree.SynchronizedTree;
import com.sun.source.tree.ThrowTree;
import com.sun.source.tree.Tree;
import com.sun.source.tree.TryTree;
import com.sun.source.tree.TypeCastTree;
import com.sun.source.tree.VariableTree;
import com.sun.source.tree.WhileLoopTree;
import com.sun.source.util.JavacTask;
import com.sun.source.util.TreePathScanner;
import com.sun.source.util.Trees;
import java.io.IOException;
import java.nio.file.Path;
import java.util.LinkedHashMap;
import java.util.LinkedHashSet;
import java.util.List;
import java.util.Map;
import java.util.Set;
import java.util.TreeSet;
import javax.lang.model.element.Element;
import javax.lang.model.element.ElementKind;
import javax.lang.model.element.Modifier;
import javax.lang.model.element.TypeElement;
import javax.lang.model.element.VariableElement;
import javax.lang.model.type.ArrayType;
import javax.lang.model.type.TypeKind;
import javax.lang.model.type.TypeMirror;
import javax.tools.JavaCompiler;
import javax.tools.JavaFileObject;
import javax.tools.StandardJavaFileManager;
import javax.tools.ToolProvider;

/** The program as the compiler sees it keeps to the rules of LANGUAGE.md that can be told from its text. */
public final class LanguageTest {
    private static final Path PROGRAM = Path.of("src/main/java/BarrierStreams.java");
    private static final int PARAMETERS_MOST = 7, LINES_MOST = 60, DEPTH_MOST = 8, CLASSES_MOST = 12, FIELDS_MOST = 20;
    // What the program uses of rule 4's list; more of it may be added here.
    private static final Set<String> LIBRARY = Set.of("java.lang.System.arraycopy", "java.lang.Math.floorMod");
    private static final Set<TypeKind> CONSTANT_KINDS =
        Set.of(TypeKind.INT, TypeKind.LONG, TypeKind.BOOLEAN, TypeKind.CHAR);

    private static int wrong = 0;

    public static void main(String[] args) throws IOException {
        JavaCompiler compiler = ToolProvider.getSystemJavaCompiler();
        try (StandardJavaFileManager files = compiler.getStandardFileManager(null, null, null)) {
            Iterable<? extends JavaFileObject> program = files.getJavaFileObjects(PROGRAM);
            JavacTask task = (JavacTask) compiler.getTask(null, files, null, List.of("-proc:none"), null, program);
            CompilationUnitTree unit = task.parse().iterator().next();
            task.analyze();
            Reader reader = new Reader(Trees.instance(task), unit);
            reader.scan(unit, null);
            reader.lookAtWhole();
        }
        System.out.println(wrong == 0 ? "the rules are kept" : wrong + " rules are not kept");
        if (wrong != 0) {
            System.exit(1);
        }
    }

    private static final class Reader extends TreePathScanner<Void, Void> {
        private final Trees trees;
        private final CompilationUnitTree unit;
        private final Map<Element, Set<Element>> callees = new LinkedHashMap<>();
        private final Set<String> libraryUsed = new TreeSet<>();
        private final Map<Element, Integer> depths = new LinkedHashMap<>();
        private int classes;

        Reader(Trees trees, CompilationUnitTree unit) {
            this.trees = trees;
            this.unit = unit;
        }

        /** What can be said only when all of the program has been read. */
        void lookAtWhole() {
            keep(11, "few classes", classes <= CLASSES_MOST);
            int deepest = 0;
            for (Element method : callees.keySet()) {
                deepest = Math.max(deepest, depth(method, new LinkedHashSet<>()));
            }
            keep(11, "calls go " + deepest + " deep", deepest <= DEPTH_MOST);
            // Without these the reader would have seen nothing, and praised it.
            keep(0, "the reader saw the classes", classes > 1);
            keep(0, "the reader saw the calls", deepest > 2);
            keep(4, "the library: " + libraryUsed, LIBRARY.equals(libraryUsed));
        }

        private int depth(Element method, Set<Element> above) {
            if (!callees.containsKey(method)) {
                return 1;
            }
            if (!above.add(method)) {
                keep(8, method + " calls itself", false);
                return 1;
            }
            Integer known = depths.get(method);
            int deepest = 0;
            if (known == null) {
                for (Element callee : callees.get(method)) {
                    deepest = Math.max(deepest, depth(callee, above));
                }
                depths.put(method, 1 + deepest);
            }
            above.remove(method);
            return depths.get(method);
        }

        private void keep(int rule, String what, boolean kept) {
            if (!kept) {
                wrong++;
                System.out.println("rule " + rule + ": " + what);
            }
        }

        private void never(int rule, Tree tree) {
            keep(rule, "line " + line(trees.getSourcePositions().getStartPosition(unit, tree)) + ": " + tree, false);
        }

        private long line(long position) {
            return unit.getLineMap().getLineNumber(position);
        }

        private Element here() {
            return trees.getElement(getCurrentPath());
        }

        private TypeMirror typeOf(Tree tree) {
            return trees.getTypeMirror(new com.sun.source.util.TreePath(getCurrentPath(), tree));
        }

        private Tree around() {
            return getCurrentPath().getParentPath().getLeaf();
        }

        private boolean isOwn(Element element) {
            for (Element e = element; e != null; e = e.getEnclosingElement()) {
                if (e instanceof TypeElement type && type.getQualifiedName().contentEquals("BarrierStreams")) {
                    return true;
                }
            }
            return false;
        }

        private boolean isOwnClass(TypeMirror type) {
            return type instanceof javax.lang.model.type.DeclaredType declared && isOwn(declared.asElement());
        }

        private boolean isAllowed(TypeMirror type) {
            if (type instanceof ArrayType array) {
                TypeMirror part = array.getComponentType();
                boolean rows = part instanceof ArrayType row && row.getComponentType().getKind().isPrimitive();
                return rows || part.getKind().isPrimitive() || isOwnClass(part);
            }
            return type.getKind().isPrimitive() || type.getKind() == TypeKind.VOID || isOwnClass(type)
                || type.toString().equals("java.lang.String");
        }

        /** Where the code stands: a method, or, for what a field is first, the constructor of its class. */
        private Element caller() {
            for (var path = getCurrentPath(); path != null; path = path.getParentPath()) {
                Element e = trees.getElement(path);
                if (path.getLeaf() instanceof MethodTree) {
                    return e;
                }
                if (path.getLeaf() instanceof ClassTree) {
                    return e.getEnclosedElements().stream().filter(x -> x.getKind() == ElementKind.CONSTRUCTOR)
                        .findFirst().orElseThrow();
                }
            }
            throw new IllegalStateException("code outside of a class");
        }

        private void call(Element callee) {
            boolean own = isOwn(callee);
            String name = callee.getEnclosingElement() + "." + callee.getSimpleName();
            if (!own && !name.equals("java.lang.Object.<init>")) {
                libraryUsed.add(name);
            }
            callees.computeIfAbsent(caller(), x -> new LinkedHashSet<>()).add(callee);
        }

        @Override
        public Void visitImport(ImportTree tree, Void nothing) {
            never(4, tree);
            return null;
        }

        @Override
        public Void visitClass(ClassTree tree, Void nothing) {
            classes++;
            Element type = here();
            boolean outer = around() instanceof CompilationUnitTree;
            keep(2, type + " is static and stands in a class", outer
                || around() instanceof ClassTree && type.getModifiers().contains(Modifier.STATIC));
            keep(1, type + " is not public", outer || !type.getModifiers().contains(Modifier.PUBLIC)
                && !type.getModifiers().contains(Modifier.PROTECTED));
            // A constructor may call methods only if no other class could put its own in their place.
            keep(12, type + " is final", type.getModifiers().contains(Modifier.FINAL));
            long fields = type.getEnclosedElements().stream()
                .filter(e -> e.getKind() == ElementKind.FIELD && !e.getModifiers().contains(Modifier.STATIC)).count();
            keep(11, type + " has few fields", fields <= FIELDS_MOST);
            for (Tree member : tree.getMembers()) {
                keep(5, type + " has no block of its own", !(member instanceof BlockTree));
            }
            return super.visitClass(tree, nothing);
        }

        @Override
        public Void visitMethod(MethodTree tree, Void nothing) {
            Element method = here();
            callees.computeIfAbsent(method, x -> new LinkedHashSet<>());
            var positions = trees.getSourcePositions();
            long lines = 1 + line(positions.getEndPosition(unit, tree)) - line(positions.getStartPosition(unit, tree));
            keep(11, method + " has " + lines + " lines", lines <= LINES_MOST);
            keep(11, method + " takes few parameters", tree.getParameters().size() <= PARAMETERS_MOST);
            keep(6, method + " throws nothing", tree.getThrows().isEmpty());
            boolean constructor = method.getKind() == ElementKind.CONSTRUCTOR;
            keep(3, method + " answers a type that is allowed", constructor || isAllowed(typeOf(tree.getReturnType())));
            return super.visitMethod(tree, nothing);
        }

        @Override
        public Void visitVariable(VariableTree tree, Void nothing) {
            VariableElement variable = (VariableElement) here();
            keep(3, variable + " is of a type that is allowed: " + variable.asType(), isAllowed(variable.asType()));
            if (variable.getModifiers().contains(Modifier.STATIC)) {
                keep(5, variable + " is a constant", variable.getModifiers().contains(Modifier.FINAL)
                    && variable.getConstantValue() != null && CONSTANT_KINDS.contains(variable.asType().getKind()));
            }
            return super.visitVariable(tree, nothing);
        }

        @Override
        public Void visitMethodInvocation(MethodInvocationTree tree, Void nothing) {
            call(here());
            return super.visitMethodInvocation(tree, nothing);
        }

        @Override
        public Void visitNewClass(NewClassTree tree, Void nothing) {
            call(here());
            if (tree.getClassBody() != null) {
                never(2, tree);
            }
            keep(12, tree + " is made with the object", caller().getKind() == ElementKind.CONSTRUCTOR);
            return super.visitNewClass(tree, nothing);
        }

        @Override
        public Void visitNewArray(NewArrayTree tree, Void nothing) {
            keep(12, tree + " is made with the object", caller().getKind() == ElementKind.CONSTRUCTOR);
            return super.visitNewArray(tree, nothing);
        }

        @Override
        public Void visitBinary(BinaryTree tree, Void nothing) {
            for (Tree side : List.of(tree.getLeftOperand(), tree.getRightOperand())) {
                String type = String.valueOf(typeOf(side));
                keep(6, tree + " is no joining and no likening of texts", !type.startsWith("java.lang"));
            }
            return super.visitBinary(tree, nothing);
        }

        @Override
        public Void visitForLoop(ForLoopTree tree, Void nothing) {
            keep(9, tree + " has a bound", tree.getCondition() != null && !tree.getUpdate().isEmpty());
            return super.visitForLoop(tree, nothing);
        }

        // The program has for loops alone, whose bound stands in their head; the rules would leave these, too.
        @Override
        public Void visitWhileLoop(WhileLoopTree tree, Void nothing) {
            never(9, tree);
            return null;
        }

        @Override
        public Void visitDoWhileLoop(DoWhileLoopTree tree, Void nothing) {
            never(9, tree);
            return null;
        }

        @Override
        public Void visitEnhancedForLoop(EnhancedForLoopTree tree, Void nothing) {
            never(9, tree);
            return null;
        }

        @Override
        public Void visitTypeCast(TypeCastTree tree, Void nothing) {
            keep(6, tree + " casts a number", typeOf(tree.getType()).getKind().isPrimitive());
            return super.visitTypeCast(tree, nothing);
        }

        @Override
        public Void visitLambdaExpression(LambdaExpressionTree tree, Void nothing) {
            never(2, tree);
            return null;
        }

        @Override
        public Void visitMemberReference(MemberReferenceTree tree, Void nothing) {
            never(2, tree);
            return null;
        }

        @Override
        public Void visitThrow(ThrowTree tree, Void nothing) {
            never(6, tree);
            return null;
        }

        @Override
        public Void visitTry(TryTree tree, Void nothing) {
            never(6, tree);
            return null;
        }

        @Override
        public Void visitSynchronized(SynchronizedTree tree, Void nothing) {
            never(6, tree);
            return null;
        }

        @Override
        public Void visitAssert(AssertTree tree, Void nothing) {
            never(6, tree);
            return null;
        }
    }
}
