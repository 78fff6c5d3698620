import com.sun.source.tree.AssertTree;
import com.sun.source.tree.BinaryTree;
import com.sun.source.tree.ClassTree;
import com.sun.source.tree.CompilationUnitTree;
import com.sun.source.tree.EnhancedForLoopTree;
import com.sun.source.tree.InstanceOfTree;
import com.sun.source.tree.LambdaExpressionTree;
import com.sun.source.tree.LiteralTree;
import com.sun.source.tree.MemberReferenceTree;
import com.sun.source.tree.MethodInvocationTree;
import com.sun.source.tree.MethodTree;
import com.sun.source.tree.NewClassTree;
import com.sun.source.tree.SynchronizedTree;
import com.sun.source.tree.ThrowTree;
import com.sun.source.tree.Tree;
import com.sun.source.tree.TryTree;
import com.sun.source.tree.TypeCastTree;
import com.sun.source.tree.VariableTree;
import com.sun.source.util.JavacTask;
import com.sun.source.util.TreePath;
import com.sun.source.util.TreePathScanner;
import com.sun.source.util.Trees;
import java.io.IOException;
import java.nio.file.Path;
import java.util.HashMap;
import java.util.List;
import java.util.Map;
import java.util.Set;
import java.util.TreeSet;
import javax.lang.model.element.Element;
import javax.lang.model.element.Modifier;
import javax.lang.model.element.TypeElement;
import javax.lang.model.type.TypeMirror;
import javax.tools.JavaCompiler;
import javax.tools.StandardJavaFileManager;
import javax.tools.ToolProvider;

/** The rules of LANGUAGE.md that are read off the compiler's trees: types, the library, throws, how deep calls go. */
public final class LanguageTreeTest {
    private static final Check CHECK = new Check("LanguageTreeTest");
    private static final Set<String> LIBRARY = Set.of(
        "java.lang.Math.max(int,int)", "java.lang.Math.min(int,int)", "java.lang.Math.floorMod(int,int)",
        "java.lang.System.arraycopy(java.lang.Object,int,java.lang.Object,int,int)",
        "java.util.Arrays.copyOf(int[],int)", "java.util.Arrays.fill(int[],int)",
        "java.util.ArrayList.add(E)", "java.util.ArrayList.add(int,E)", "java.util.ArrayList.get(int)",
        "java.util.ArrayList.remove(int)", "java.util.ArrayList.size()", "java.util.ArrayList.clear()");
    private static final Set<String> THROWN = Set.of(
        "java.lang.IllegalStateException", "java.lang.IllegalArgumentException", "java.lang.IndexOutOfBoundsException");
    private static final Set<String> PLAIN = Set.of("int", "boolean", "int[]", "boolean[]");
    private static final int DEEPEST = 8, PARAMETERS = 7, CLASSES = 12, FIELDS = 20;

    public static void main(String[] args) throws IOException {
        JavaCompiler compiler = ToolProvider.getSystemJavaCompiler();
        try (StandardJavaFileManager files = compiler.getStandardFileManager(null, null, null)) {
            Path source = Path.of("src", "main", "java", "TradeLine.java");
            JavacTask task = (JavacTask) compiler.getTask(null, files, null, List.of("-proc:none"), null, files.getJavaFileObjects(source));
            CompilationUnitTree unit = task.parse().iterator().next();
            task.analyze();
            Reader reader = new Reader(Trees.instance(task));
            reader.scan(unit, null);
            reader.sums();
        }
        CHECK.end();
    }

    private static final class Reader extends TreePathScanner<Void, Void> {
        private final Trees trees;
        private final Map<String, Set<String>> calls = new HashMap<>();
        private final Set<String> used = new TreeSet<>();
        private String method = "";
        private boolean inConstructor;
        private int classes;
        private int throwsSeen;

        Reader(Trees trees) {
            this.trees = trees;
        }

        private Element element() {
            return trees.getElement(getCurrentPath());
        }

        private TypeMirror type(Tree tree) {
            return trees.getTypeMirror(new TreePath(getCurrentPath(), tree));
        }

        private static boolean isOwn(String type) {
            return type.equals("TradeLine") || type.startsWith("TradeLine.");
        }

        private static String nameOf(Element called) {
            return ((TypeElement) called.getEnclosingElement()).getQualifiedName() + "." + called;
        }

        @Override
        public Void visitClass(ClassTree tree, Void nothing) {
            classes++;
            long fields = tree.getMembers().stream()
                .filter(member -> member instanceof VariableTree)
                .filter(member -> !((VariableTree) member).getModifiers().getFlags().contains(Modifier.STATIC))
                .count();
            CHECK.is(tree.getSimpleName() + " has some twenty fields at most", fields <= FIELDS, true);
            boolean blocks = tree.getMembers().stream().anyMatch(member -> member.getKind() == Tree.Kind.BLOCK);
            CHECK.is(tree.getSimpleName() + " has no initialiser block", blocks, false);
            return super.visitClass(tree, nothing);
        }

        @Override
        public Void visitMethod(MethodTree tree, Void nothing) {
            String before = method;
            boolean wasInConstructor = inConstructor;
            method = nameOf(element());
            inConstructor = tree.getReturnType() == null;
            calls.putIfAbsent(method, new TreeSet<>());
            CHECK.is(method + " takes at most seven parameters", tree.getParameters().size() <= PARAMETERS, true);
            super.visitMethod(tree, nothing);
            method = before;
            inConstructor = wasInConstructor;
            return null;
        }

        @Override
        public Void visitVariable(VariableTree tree, Void nothing) {
            String type = element().asType().toString();
            String inside = type.replaceAll("^java\\.util\\.ArrayList<(.*)>$", "$1").replaceAll("\\[\\]$", "");
            CHECK.is(tree.getName() + " of the type " + type, PLAIN.contains(type) || isOwn(inside), true);
            Set<Modifier> flags = tree.getModifiers().getFlags();
            if (flags.contains(Modifier.STATIC)) {
                CHECK.is("static " + tree.getName() + " is final", flags.contains(Modifier.FINAL), true);
                CHECK.is("static " + tree.getName() + " is of numbers", Set.of("int", "int[]").contains(type), true);
            }
            return super.visitVariable(tree, nothing);
        }

        @Override
        public Void visitMethodInvocation(MethodInvocationTree tree, Void nothing) {
            String called = nameOf(trees.getElement(new TreePath(getCurrentPath(), tree.getMethodSelect())));
            if (isOwn(called.substring(0, called.lastIndexOf('.', called.indexOf('('))))) {
                calls.get(method).add(called);
            } else if (!called.equals("java.lang.Object.Object()")) {
                used.add(called);
            }
            return super.visitMethodInvocation(tree, nothing);
        }

        @Override
        public Void visitNewClass(NewClassTree tree, Void nothing) {
            Element made = element();
            String type = ((TypeElement) made.getEnclosingElement()).getQualifiedName().toString();
            boolean thrown = getCurrentPath().getParentPath().getLeaf() instanceof ThrowTree;
            if (isOwn(type)) {
                calls.computeIfAbsent(method, key -> new TreeSet<>()).add(nameOf(made));
            } else {
                CHECK.is("new " + type, thrown ? THROWN.contains(type) : type.equals("java.util.ArrayList"), true);
            }
            CHECK.is("no class without a name: " + type, tree.getClassBody() == null, true);
            return super.visitNewClass(tree, nothing);
        }

        @Override
        public Void visitThrow(ThrowTree tree, Void nothing) {
            throwsSeen++;
            CHECK.is("no throw in a constructor", inConstructor, false);
            boolean written = tree.getExpression() instanceof NewClassTree
                && ((NewClassTree) tree.getExpression()).getArguments().stream().allMatch(given -> given instanceof LiteralTree);
            CHECK.is("thrown with a written text: " + tree, written, true);
            return super.visitThrow(tree, nothing);
        }

        @Override
        public Void visitBinary(BinaryTree tree, Void nothing) {
            String left = String.valueOf(type(tree.getLeftOperand()));
            boolean ofTexts = left.equals("java.lang.String") || left.equals("java.lang.Integer");
            CHECK.is("no operator on texts or Integers: " + tree, ofTexts, false);
            if (tree.getKind() == Tree.Kind.DIVIDE || tree.getKind() == Tree.Kind.REMAINDER) {
                boolean plain = tree.getRightOperand() instanceof LiteralTree
                    && !Integer.valueOf(0).equals(((LiteralTree) tree.getRightOperand()).getValue());
                CHECK.is("a written divisor that is not 0: " + tree, plain, true);
            }
            return super.visitBinary(tree, nothing);
        }

        private Void refuse(Tree tree) {
            CHECK.same("what the class does without", tree.toString(), "");
            return null;
        }

        @Override
        public Void visitTypeCast(TypeCastTree tree, Void nothing) {
            return refuse(tree);
        }

        @Override
        public Void visitInstanceOf(InstanceOfTree tree, Void nothing) {
            return refuse(tree);
        }

        @Override
        public Void visitLambdaExpression(LambdaExpressionTree tree, Void nothing) {
            return refuse(tree);
        }

        @Override
        public Void visitMemberReference(MemberReferenceTree tree, Void nothing) {
            return refuse(tree);
        }

        @Override
        public Void visitTry(TryTree tree, Void nothing) {
            return refuse(tree);
        }

        @Override
        public Void visitSynchronized(SynchronizedTree tree, Void nothing) {
            return refuse(tree);
        }

        @Override
        public Void visitAssert(AssertTree tree, Void nothing) {
            return refuse(tree);
        }

        @Override
        public Void visitEnhancedForLoop(EnhancedForLoopTree tree, Void nothing) {
            return refuse(tree);
        }

        void sums() {
            CHECK.is("some twelve classes at most", classes <= CLASSES, true);
            CHECK.is("throws were seen", throwsSeen > 10, true);
            for (String name : used) {
                CHECK.is("the library's " + name, LIBRARY.contains(name), true);
            }
            int deepest = 0;
            for (String from : calls.keySet()) {
                deepest = Math.max(deepest, depth(from, 1));
            }
            CHECK.is("calls go eight deep at most, in no ring: " + deepest, deepest <= DEEPEST, true);
            CHECK.is("calls were seen", deepest > 3, true);
        }

        /** How many calls stand open at once, from this one on; a ring of calls ends above the greatest depth. */
        private int depth(String from, int open) {
            int deepest = open;
            if (open <= DEEPEST) {
                for (String called : calls.getOrDefault(from, Set.of())) {
                    deepest = Math.max(deepest, depth(called, open + 1));
                }
            }
            return deepest;
        }
    }
}
