import com.sun.source.tree.*;
import com.sun.source.util.JavacTask;
import com.sun.source.util.SourcePositions;
import com.sun.source.util.TreePathScanner;
import com.sun.source.util.Trees;
import java.io.IOException;
import java.nio.file.Files;
import java.nio.file.Path;
import java.util.ArrayList;
import java.util.HashMap;
import java.util.List;
import java.util.Map;
import java.util.Set;
import java.util.TreeSet;
import javax.lang.model.element.Element;
import javax.lang.model.element.ElementKind;
import javax.lang.model.element.ExecutableElement;
import javax.lang.model.element.Modifier;
import javax.lang.model.element.TypeElement;
import javax.lang.model.type.TypeKind;
import javax.lang.model.type.TypeMirror;
import javax.tools.JavaCompiler;
import javax.tools.StandardJavaFileManager;
import javax.tools.ToolProvider;

/**
 * The class's source keeps to LANGUAGE.md. What this class needs of that Java is less than the rules allow,
 * so the test asks for less: no recursion, no other loop than for, of the library two functions and
 * arraycopy, and all that is made is made along with the object.
 */
public final class LanguageTest {
    private static final Path SOURCE = Path.of("src/main/java/RumorTombs.java");
    private static final Set<String> LIBRARY = Set.of("arraycopy(java.lang.Object,int,java.lang.Object,int,int)",
            "max(int,int)", "bitCount(int)");
    private static final Set<String> TYPES = Set.of("int", "boolean", "char", "int[]", "char[]", "void",
            "RumorTombs", "RumorTombs.Village", "RumorTombs.Village[]", "RumorTombs.History", "RumorTombs.Orders");
    private static final Set<Tree.Kind> LEFT_OUT = Set.of(Tree.Kind.THROW, Tree.Kind.TRY, Tree.Kind.CATCH,
            Tree.Kind.SYNCHRONIZED, Tree.Kind.ASSERT, Tree.Kind.LAMBDA_EXPRESSION, Tree.Kind.MEMBER_REFERENCE,
            Tree.Kind.ANNOTATION, Tree.Kind.PACKAGE, Tree.Kind.IMPORT, Tree.Kind.SWITCH_EXPRESSION,
            Tree.Kind.WHILE_LOOP, Tree.Kind.DO_WHILE_LOOP, Tree.Kind.INSTANCE_OF, Tree.Kind.STRING_LITERAL,
            Tree.Kind.NULL_LITERAL, Tree.Kind.INTERFACE, Tree.Kind.ENUM, Tree.Kind.RECORD);

    private static final Map<String, Set<String>> CALLED = new HashMap<>();

    public static void main(String[] args) throws IOException {
        String text = Files.readString(SOURCE);
        Due.sentence("texts hold characters 0 to 255 alone");
        Due.is("every sign is plain", text.chars().allMatch(c -> c == '\n' || c >= 32 && c <= 126) ? 1 : 0, 1);
        JavaCompiler compiler = ToolProvider.getSystemJavaCompiler();
        try (StandardJavaFileManager files = compiler.getStandardFileManager(null, null, null)) {
            JavacTask task = (JavacTask) compiler.getTask(null, files, null, List.of("-proc:none"), null,
                    files.getJavaFileObjects(SOURCE));
            Iterable<? extends CompilationUnitTree> units = task.parse();
            task.analyze();
            for (CompilationUnitTree unit : units) {
                new Parts(Trees.instance(task), unit).scan(unit, null);
            }
        }
        lookAtCalls();
        Due.end();
    }

    private static void lookAtCalls() {
        Due.sentence("calls that are no recursion go at most eight deep");
        Due.is("methods were found", CALLED.size() > 23 ? 1 : 0, 1);
        for (String method : CALLED.keySet()) {
            int depth = depth(method, new ArrayList<>());
            Due.is("the depth of " + method + " is " + depth, depth <= 8 ? 1 : 0, 1);
        }
    }

    /** How many methods are open at once behind a call of this one, itself one of them; 99 in a circle. */
    private static int depth(String method, List<String> open) {
        if (open.contains(method)) {
            return 99;
        }
        open.add(method);
        int deepest = 0;
        for (String called : CALLED.getOrDefault(method, Set.of())) {
            deepest = Math.max(deepest, depth(called, open));
        }
        open.remove(open.size() - 1);
        return deepest + 1;
    }

    /** One look at each part of the source. */
    private static final class Parts extends TreePathScanner<Void, Void> {
        private final Trees trees;
        private final CompilationUnitTree unit;
        private String method = "";
        private boolean constructing = true;
        private int classes = 0;

        Parts(Trees trees, CompilationUnitTree unit) {
            this.trees = trees;
            this.unit = unit;
        }

        @Override
        public Void scan(Tree tree, Void nothing) {
            if (tree != null && LEFT_OUT.contains(tree.getKind())) {
                Due.sentence("LANGUAGE.md leaves it out, or the class needs none of it");
                Due.is(tree.getKind() + " in line " + line(tree), 1, 0);
            }
            return super.scan(tree, nothing);
        }

        @Override
        public Void visitClass(ClassTree tree, Void nothing) {
            classes++;
            Due.sentence("the file has at most some twelve classes, and a class some twenty fields beside its constants");
            Due.is("twelve classes at most", classes <= 12 ? 1 : 0, 1);
            TypeElement type = (TypeElement) trees.getElement(getCurrentPath());
            Due.is(type + " has twenty fields at most", fields(type) <= 20 ? 1 : 0, 1);
            if (classes > 1) {
                Due.sentence("static nested classes");
                Due.is(type + " is nested in the public class, private and static", type.getEnclosingElement().toString()
                        .equals("RumorTombs") && type.getModifiers().containsAll(Set.of(Modifier.PRIVATE, Modifier.STATIC,
                        Modifier.FINAL)) ? 1 : 0, 1);
            }
            return super.visitClass(tree, nothing);
        }

        private int fields(TypeElement type) {
            int fields = 0;
            for (Element member : type.getEnclosedElements()) {
                if (member.getKind() == ElementKind.FIELD && !member.getModifiers().contains(Modifier.STATIC)) {
                    fields++;
                }
            }
            return fields;
        }

        @Override
        public Void visitMethod(MethodTree tree, Void nothing) {
            ExecutableElement element = (ExecutableElement) trees.getElement(getCurrentPath());
            method = name(element);
            constructing = element.getKind() == ElementKind.CONSTRUCTOR;
            CALLED.computeIfAbsent(method, m -> new TreeSet<>());
            Due.sentence("a method takes at most seven parameters");
            Due.is(method, tree.getParameters().size() <= 7 ? 1 : 0, 1);
            Due.sentence("methods stay short (some sixty lines)");
            Due.is(method, lastLine(tree) - line(tree) < 60 ? 1 : 0, 1);
            Due.sentence("no equals, hashCode or toString of your own");
            Due.is(method, Set.of("equals", "hashCode", "toString").contains(tree.getName().toString()) ? 1 : 0, 0);
            Due.sentence("no throw");
            Due.is(method, tree.getThrows().size(), 0);
            super.visitMethod(tree, nothing);
            constructing = true;
            method = "";
            return null;
        }

        @Override
        public Void visitVariable(VariableTree tree, Void nothing) {
            Element element = trees.getElement(getCurrentPath());
            Due.sentence("types: what stands there");
            Due.is(element + " in line " + line(tree) + " is of type " + element.asType(),
                    TYPES.contains(element.asType().toString()) ? 1 : 0, 1);
            if (element.getKind() == ElementKind.FIELD && element.getModifiers().contains(Modifier.STATIC)) {
                Due.sentence("static fields are final: constants");
                Due.is(element.toString(), element.getModifiers().contains(Modifier.FINAL)
                        && element.asType().getKind().isPrimitive() ? 1 : 0, 1);
            }
            return super.visitVariable(tree, nothing);
        }

        @Override
        public Void visitBlock(BlockTree tree, Void nothing) {
            Due.sentence("no static initialiser block");
            Due.is("a block in line " + line(tree), tree.isStatic() ? 1 : 0, 0);
            return super.visitBlock(tree, nothing);
        }

        @Override
        public Void visitForLoop(ForLoopTree tree, Void nothing) {
            Due.sentence("every loop has an end that can be seen from its own lines");
            Due.is("a loop in line " + line(tree) + " has one counter, and it is below a bound",
                    hasCounterAndBound(tree) ? 1 : 0, 1);
            return super.visitForLoop(tree, nothing);
        }

        private static boolean hasCounterAndBound(ForLoopTree tree) {
            if (tree.getCondition() == null || tree.getInitializer().size() != 1 || tree.getUpdate().size() != 1) {
                return false;
            }
            Tree.Kind condition = tree.getCondition().getKind();
            return tree.getUpdate().get(0).getExpression().getKind() == Tree.Kind.POSTFIX_INCREMENT
                    && (condition == Tree.Kind.LESS_THAN || condition == Tree.Kind.LESS_THAN_EQUAL);
        }

        @Override
        public Void visitMethodInvocation(MethodInvocationTree tree, Void nothing) {
            ExecutableElement called = (ExecutableElement) trees.getElement(getCurrentPath());
            String owner = called.getEnclosingElement().toString();
            if (owner.startsWith("RumorTombs")) {
                CALLED.computeIfAbsent(method, m -> new TreeSet<>()).add(name(called));
            } else if (called.getKind() != ElementKind.CONSTRUCTOR) {
                Due.sentence("the library: only what stands here");
                Due.is(owner + "." + called, LIBRARY.contains(called.toString()) && Set.of("java.lang.System",
                        "java.lang.Math", "java.lang.Integer").contains(owner) ? 1 : 0, 1);
                CALLED.computeIfAbsent(method, m -> new TreeSet<>()).add(owner + "." + called);
            }
            return super.visitMethodInvocation(tree, nothing);
        }

        @Override
        public Void visitNewClass(NewClassTree tree, Void nothing) {
            lookAtRoom(tree);
            Due.sentence("your own classes, none of them anonymous");
            TypeMirror made = trees.getTypeMirror(getCurrentPath());
            Due.is("new " + made, tree.getClassBody() == null && TYPES.contains(made.toString()) ? 1 : 0, 1);
            return super.visitNewClass(tree, nothing);
        }

        @Override
        public Void visitNewArray(NewArrayTree tree, Void nothing) {
            lookAtRoom(tree);
            return super.visitNewArray(tree, nothing);
        }

        private void lookAtRoom(Tree tree) {
            Due.sentence("make rows in constructors and use them again");
            Due.is("something made in line " + line(tree), constructing ? 1 : 0, 1);
        }

        @Override
        public Void visitTypeCast(TypeCastTree tree, Void nothing) {
            Due.sentence("a cast only behind the test that makes it safe");
            Due.is("a cast of numbers in line " + line(tree),
                    trees.getTypeMirror(getCurrentPath()).getKind() == TypeKind.CHAR ? 1 : 0, 1);
            return super.visitTypeCast(tree, nothing);
        }

        @Override
        public Void visitBinary(BinaryTree tree, Void nothing) {
            if (tree.getKind() == Tree.Kind.DIVIDE || tree.getKind() == Tree.Kind.REMAINDER) {
                Due.sentence("a divisor before it divides");
                Due.is("a division in line " + line(tree), tree.getRightOperand().toString().equals("AUTHORS") ? 1 : 0, 1);
            }
            return super.visitBinary(tree, nothing);
        }

        private static String name(ExecutableElement element) {
            return element.getEnclosingElement() + "." + element;
        }

        private long line(Tree tree) {
            SourcePositions positions = trees.getSourcePositions();
            return unit.getLineMap().getLineNumber(positions.getStartPosition(unit, tree));
        }

        private long lastLine(Tree tree) {
            SourcePositions positions = trees.getSourcePositions();
            return unit.getLineMap().getLineNumber(positions.getEndPosition(unit, tree));
        }
    }
}
