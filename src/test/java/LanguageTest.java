import com.sun.source.tree.ArrayTypeTree;
import com.sun.source.tree.AssertTree;
import com.sun.source.tree.ClassTree;
import com.sun.source.tree.CompilationUnitTree;
import com.sun.source.tree.LambdaExpressionTree;
import com.sun.source.tree.LineMap;
import com.sun.source.tree.LiteralTree;
import com.sun.source.tree.MemberReferenceTree;
import com.sun.source.tree.MethodInvocationTree;
import com.sun.source.tree.MethodTree;
import com.sun.source.tree.NewArrayTree;
import com.sun.source.tree.NewClassTree;
import com.sun.source.tree.SwitchExpressionTree;
import com.sun.source.tree.SynchronizedTree;
import com.sun.source.tree.ThrowTree;
import com.sun.source.tree.Tree;
import com.sun.source.tree.TryTree;
import com.sun.source.tree.VariableTree;
import com.sun.source.util.JavacTask;
import com.sun.source.util.TreePathScanner;
import com.sun.source.util.Trees;
import java.io.IOException;
import java.lang.reflect.Field;
import java.lang.reflect.Method;
import java.lang.reflect.Modifier;
import java.nio.file.Files;
import java.nio.file.Path;
import java.util.ArrayList;
import java.util.HashMap;
import java.util.HashSet;
import java.util.LinkedHashSet;
import java.util.List;
import java.util.Map;
import java.util.Set;
import javax.lang.model.element.Element;
import javax.lang.model.element.ElementKind;
import javax.lang.model.element.ExecutableElement;
import javax.lang.model.element.TypeElement;
import javax.tools.JavaCompiler;
import javax.tools.StandardJavaFileManager;
import javax.tools.ToolProvider;

/** The face of the document, and the rules of ../shared/LANGUAGE.md that can be counted in the source. */
final class LanguageTest {
    private static final Path SOURCE = Path.of("src/main/java/BridgeRounds.java");
    private static final Path DOCUMENT = Path.of("../shared/DOC.md");
    private static final Set<String> LIBRARY = Set.of("arraycopy", "min", "max");

    private static final Check CHECK = new Check("LanguageTest");

    public static void main(String[] args) throws IOException {
        face();
        text();
        Scan scan = Scan.of(SOURCE);
        scan.names();
        scan.depths();
        CHECK.end();
    }

    private static void due(String what, boolean holds) {
        CHECK.due(what, holds ? 1 : 0, 1);
    }

    /** Rule 1: just what the document lists is public, and nothing else but classes is seen from outside. */
    private static void face() throws IOException {
        Set<String> listed = new HashSet<>();
        String document = Files.readString(DOCUMENT);
        int begin = document.indexOf("```java");
        for (String line : document.substring(begin, document.indexOf("```", begin + 7)).split("\n")) {
            if (line.startsWith("    public ") && line.contains("(") && !line.contains("BridgeRounds(")) {
                String types = line.replaceAll("(int|boolean) \\w+([,)])", "$1$2").replaceAll("[;]", "");
                listed.add(types.trim());
            }
        }
        due("the document lists methods", listed.size() == 35);
        Set<String> found = new HashSet<>();
        for (Method method : BridgeRounds.class.getDeclaredMethods()) {
            if (!Modifier.isPrivate(method.getModifiers())) {
                List<String> types = new ArrayList<>();
                for (Class<?> type : method.getParameterTypes()) {
                    types.add(type.getName());
                }
                found.add(Modifier.toString(method.getModifiers()) + " " + method.getReturnType().getName() + " "
                        + method.getName() + "(" + String.join(", ", types) + ")");
            }
        }
        due("the methods " + found + " are those of the document " + listed, found.equals(listed));
        Set<String> constants = new HashSet<>();
        for (Field field : BridgeRounds.class.getDeclaredFields()) {
            if (!Modifier.isPrivate(field.getModifiers())) {
                constants.add(Modifier.toString(field.getModifiers()) + " " + field.getName());
            }
        }
        Set<String> codes = new HashSet<>();
        for (String name : List.of("NONE", "BAD_INDEX", "BAD_VALUE", "BAD_STATE", "FULL")) {
            codes.add("public static final " + name);
        }
        due("the constants", constants.equals(codes));
        due("one constructor", BridgeRounds.class.getDeclaredConstructors().length == 1
                && BridgeRounds.class.getConstructors().length == 1);
        due("public and final", BridgeRounds.class.getModifiers() == (Modifier.PUBLIC | Modifier.FINAL));
        for (Class<?> inside : BridgeRounds.class.getDeclaredClasses()) {
            due(inside + " is static", Modifier.isStatic(inside.getModifiers()));
        }
    }

    private static void text() throws IOException {
        byte[] bytes = Files.readAllBytes(SOURCE);
        boolean plain = true;
        for (byte b : bytes) {
            plain = plain && b > 0;
        }
        due("plain signs alone", plain);
        due("no import, no package", !new String(bytes).matches("(?s).*\\n(import|package) .*"));
    }

    /** Walks over the source once, and keeps who calls whom. */
    private static final class Scan extends TreePathScanner<Void, Void> {
        private final Trees trees;
        private final CompilationUnitTree unit;
        private final LineMap lines;
        private final Map<ExecutableElement, Set<ExecutableElement>> calls = new HashMap<>();
        private final Map<String, Set<String>> names = new HashMap<>();
        private ExecutableElement within;
        private int classes;

        private Scan(Trees trees, CompilationUnitTree unit) {
            this.trees = trees;
            this.unit = unit;
            this.lines = unit.getLineMap();
        }

        static Scan of(Path source) throws IOException {
            JavaCompiler compiler = ToolProvider.getSystemJavaCompiler();
            StandardJavaFileManager files = compiler.getStandardFileManager(null, null, null);
            JavacTask task = (JavacTask) compiler.getTask(null, files, null, null, null, files.getJavaFileObjects(source));
            CompilationUnitTree unit = task.parse().iterator().next();
            task.analyze();
            Scan scan = new Scan(Trees.instance(task), unit);
            scan.scan(unit, null);
            due("rule 11: some twelve classes", scan.classes <= 12);
            return scan;
        }

        private void refuse(Tree tree, String what) {
            long line = lines.getLineNumber(trees.getSourcePositions().getStartPosition(unit, tree));
            due("line " + line + ": " + what, false);
        }

        @Override
        public Void visitClass(ClassTree tree, Void none) {
            classes++;
            int fields = 0;
            for (Tree member : tree.getMembers()) {
                if (member instanceof VariableTree) {
                    Set<javax.lang.model.element.Modifier> flags = ((VariableTree) member).getModifiers().getFlags();
                    boolean isStatic = flags.contains(javax.lang.model.element.Modifier.STATIC);
                    fields += isStatic ? 0 : 1;
                    if (isStatic && !flags.contains(javax.lang.model.element.Modifier.FINAL)) {
                        refuse(member, "rule 5: a static field that is not final");
                    }
                }
                if (member.getKind() == Tree.Kind.BLOCK) {
                    refuse(member, "rule 5: an initialiser block");
                }
            }
            due("rule 11: fields of " + tree.getSimpleName(), fields <= 20);
            return super.visitClass(tree, none);
        }

        @Override
        public Void visitMethod(MethodTree tree, Void none) {
            ExecutableElement outer = within;
            within = (ExecutableElement) trees.getElement(getCurrentPath());
            calls.put(within, new LinkedHashSet<>());
            String access = within.getModifiers().contains(javax.lang.model.element.Modifier.PUBLIC) ? "public" : "own";
            names.computeIfAbsent(access, key -> new HashSet<>()).add(within.getSimpleName().toString());
            long first = lines.getLineNumber(trees.getSourcePositions().getStartPosition(unit, tree));
            long last = lines.getLineNumber(trees.getSourcePositions().getEndPosition(unit, tree));
            due("rule 11: length of " + within, last - first < 60);
            due("rule 11: parameters of " + within, tree.getParameters().size() <= 7);
            super.visitMethod(tree, none);
            within = outer;
            return null;
        }

        @Override
        public Void visitMethodInvocation(MethodInvocationTree tree, Void none) {
            Element called = trees.getElement(getCurrentPath());
            if (called.getKind() == ElementKind.METHOD) {
                calls.get(within).add((ExecutableElement) called);
                String owner = ((TypeElement) called.getEnclosingElement()).getQualifiedName().toString();
                if (!owner.startsWith("BridgeRounds") && !LIBRARY.contains(called.getSimpleName().toString())) {
                    refuse(tree, "rule 4: " + owner + "." + called);
                }
            }
            return super.visitMethodInvocation(tree, none);
        }

        /** Rooms are made with the object: no call makes anything. */
        private void made(Tree tree) {
            if (within != null && within.getKind() != ElementKind.CONSTRUCTOR) {
                refuse(tree, "a call makes an object");
            }
        }

        @Override
        public Void visitNewClass(NewClassTree tree, Void none) {
            made(tree);
            if (tree.getClassBody() != null) {
                refuse(tree, "rule 2: an anonymous class");
            }
            return super.visitNewClass(tree, none);
        }

        @Override
        public Void visitNewArray(NewArrayTree tree, Void none) {
            made(tree);
            return super.visitNewArray(tree, none);
        }

        @Override
        public Void visitArrayType(ArrayTypeTree tree, Void none) {
            if (tree.getType() instanceof ArrayTypeTree) {
                refuse(tree, "an array of two dimensions");
            }
            return super.visitArrayType(tree, none);
        }

        @Override
        public Void visitLambdaExpression(LambdaExpressionTree tree, Void none) {
            refuse(tree, "rule 2: a lambda");
            return super.visitLambdaExpression(tree, none);
        }

        @Override
        public Void visitMemberReference(MemberReferenceTree tree, Void none) {
            refuse(tree, "rule 2: a method reference");
            return super.visitMemberReference(tree, none);
        }

        @Override
        public Void visitLiteral(LiteralTree tree, Void none) {
            if (tree.getKind() == Tree.Kind.STRING_LITERAL) {
                refuse(tree, "a text");
            }
            return super.visitLiteral(tree, none);
        }

        @Override
        public Void visitSwitchExpression(SwitchExpressionTree tree, Void none) {
            refuse(tree, "a switch expression");
            return super.visitSwitchExpression(tree, none);
        }

        @Override
        public Void visitThrow(ThrowTree tree, Void none) {
            refuse(tree, "rule 6: throw");
            return super.visitThrow(tree, none);
        }

        @Override
        public Void visitTry(TryTree tree, Void none) {
            refuse(tree, "rule 6: try");
            return super.visitTry(tree, none);
        }

        @Override
        public Void visitSynchronized(SynchronizedTree tree, Void none) {
            refuse(tree, "rule 6: synchronized");
            return super.visitSynchronized(tree, none);
        }

        @Override
        public Void visitAssert(AssertTree tree, Void none) {
            refuse(tree, "rule 6: assert");
            return super.visitAssert(tree, none);
        }

        /** Rule 1: no private method bears the name of a public one. */
        void names() {
            for (String name : names.get("own")) {
                boolean constructor = name.equals("<init>");
                due("rule 1: the name " + name, constructor || !names.get("public").contains(name));
            }
        }

        /** Rules 8 and 11: no recursion, and calls at most eight deep. */
        void depths() {
            for (ExecutableElement method : calls.keySet()) {
                int deep = depth(method, 1);
                due("rule 11: depth of " + method + ": " + deep, deep <= 8);
            }
        }

        private int depth(ExecutableElement method, int open) {
            int deepest = 0;
            if (open <= 20) {
                for (ExecutableElement called : calls.getOrDefault(method, Set.of())) {
                    deepest = Math.max(deepest, depth(called, open + 1));
                }
            }
            return deepest + 1;
        }
    }
}
