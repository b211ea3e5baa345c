import com.sun.source.tree.AssertTree;
import com.sun.source.tree.BinaryTree;
import com.sun.source.tree.BlockTree;
import com.sun.source.tree.ClassTree;
import com.sun.source.tree.CompilationUnitTree;
import com.sun.source.tree.LambdaExpressionTree;
import com.sun.source.tree.MemberReferenceTree;
import com.sun.source.tree.MethodInvocationTree;
import com.sun.source.tree.MethodTree;
import com.sun.source.tree.NewArrayTree;
import com.sun.source.tree.NewClassTree;
import com.sun.source.tree.SynchronizedTree;
import com.sun.source.tree.ThrowTree;
import com.sun.source.tree.Tree;
import com.sun.source.tree.TryTree;
import com.sun.source.tree.VariableTree;
import com.sun.source.util.JavacTask;
import com.sun.source.util.SourcePositions;
import com.sun.source.util.TreePathScanner;
import com.sun.source.util.Trees;
import java.io.IOException;
import java.lang.reflect.Constructor;
import java.lang.reflect.Field;
import java.lang.reflect.Method;
import java.lang.reflect.Modifier;
import java.nio.file.Files;
import java.nio.file.Path;
import java.util.ArrayList;
import java.util.HashMap;
import java.util.LinkedHashMap;
import java.util.LinkedHashSet;
import java.util.List;
import java.util.Map;
import java.util.Set;
import java.util.TreeSet;
import javax.lang.model.element.Element;
import javax.lang.model.element.ElementKind;
import javax.lang.model.element.ExecutableElement;
import javax.tools.JavaCompiler;
import javax.tools.StandardJavaFileManager;
import javax.tools.ToolProvider;

/** The rules of ../shared/LANGUAGE.md that can be looked at from outside, and the document's face. */
public final class LanguageTest {
    private static final Telling T = new Telling("LanguageTest");
    private static final Path SOURCE = Path.of("src/main/java/RingVillage.java");
    private static final Path DOCUMENT = Path.of("../shared/DOC.md");
    private static final Set<String> LIBRARY = Set.of("java.lang.String.length", "java.lang.String.charAt", "java.lang.Math.max",
        "java.lang.Math.min", "java.lang.Math.abs", "java.lang.Integer.bitCount", "java.lang.System.arraycopy",
        "java.util.Arrays.fill");

    public static void main(String[] args) throws IOException {
        face();
        scan();
        T.close();
    }

    private static String line(int modifiers, String type, String name, Class<?>[] parameters) {
        StringBuilder text = new StringBuilder(Modifier.toString(modifiers) + " " + type + name + "(");
        for (int i = 0; i < parameters.length; i++) {
            text.append(i > 0 ? ", " : "").append(parameters[i].getName());
        }
        return text.append(")").toString();
    }

    private static void face() throws IOException {
        Set<String> due = new TreeSet<>();
        boolean inFace = false;
        for (String each : Files.readAllLines(DOCUMENT)) {
            inFace = each.startsWith("```java") || inFace && !each.startsWith("```");
            String row = each.trim();
            if (inFace && row.startsWith("public") && row.endsWith(");")) {
                due.add(row.replaceAll("(int|long|boolean) \\w+([,)])", "$1$2").replaceAll(";$", ""));
            }
        }
        Set<String> got = new TreeSet<>();
        for (Constructor<?> c : RingVillage.class.getDeclaredConstructors()) {
            got.add(line(c.getModifiers(), "", "RingVillage", c.getParameterTypes()));
        }
        for (Method m : RingVillage.class.getDeclaredMethods()) {
            if (!Modifier.isPrivate(m.getModifiers())) {
                got.add(line(m.getModifiers(), m.getReturnType().getName() + " ", m.getName(), m.getParameterTypes()));
            } else {
                T.due("private " + m.getName() + " bears a public one's name", due.toString().contains(" " + m.getName() + "("), false);
            }
        }
        T.due("the face is the document's: " + got + " / " + due, got.equals(due), true);
        T.due("the face has 43 members", due.size(), 43);
        for (Field f : RingVillage.class.getDeclaredFields()) {
            T.due("field " + f.getName() + " is private", Modifier.isPrivate(f.getModifiers()), !f.getName().equals("NONE"));
        }
        T.due("the class is public and final", Modifier.toString(RingVillage.class.getModifiers()).equals("public final"), true);
    }

    private static void scan() throws IOException {
        JavaCompiler compiler = ToolProvider.getSystemJavaCompiler();
        try (StandardJavaFileManager files = compiler.getStandardFileManager(null, null, null)) {
            JavacTask task = (JavacTask) compiler.getTask(null, files, null, List.of("-proc:none"), null, files.getJavaFileObjects(SOURCE));
            CompilationUnitTree unit = task.parse().iterator().next();
            task.analyze();
            Scanner scanner = new Scanner(unit, Trees.instance(task));
            scanner.scan(unit, null);
            scanner.judge();
        }
    }

    private static final class Scanner extends TreePathScanner<Void, Void> {
        private final CompilationUnitTree unit;
        private final Trees trees;
        private final SourcePositions places;
        private final Map<Element, Set<Element>> calls = new LinkedHashMap<>();
        private Element inside;
        private int classes;

        Scanner(CompilationUnitTree unit, Trees trees) {
            this.unit = unit;
            this.trees = trees;
            this.places = trees.getSourcePositions();
        }

        private long lineOf(long place) {
            return unit.getLineMap().getLineNumber(place);
        }

        private void refuse(Tree tree, String why) {
            T.due("line " + lineOf(places.getStartPosition(unit, tree)) + ": " + why, 1, 0);
        }

        @Override
        public Void visitClass(ClassTree tree, Void none) {
            classes++;
            Set<javax.lang.model.element.Modifier> flags = tree.getModifiers().getFlags();
            if (getCurrentPath().getParentPath().getLeaf() != unit && !flags.contains(javax.lang.model.element.Modifier.STATIC)) {
                refuse(tree, "a class inside that is not static");
            }
            int fields = 0;
            for (Tree member : tree.getMembers()) {
                if (member instanceof VariableTree) {
                    Set<javax.lang.model.element.Modifier> kinds = ((VariableTree) member).getModifiers().getFlags();
                    boolean fixed = kinds.contains(javax.lang.model.element.Modifier.STATIC);
                    fields += fixed ? 0 : 1;
                    if (fixed && !kinds.contains(javax.lang.model.element.Modifier.FINAL)) {
                        refuse(member, "a static field that is not final");
                    }
                }
                if (member instanceof BlockTree) {
                    refuse(member, "an initialiser block");
                }
            }
            T.due(tree.getSimpleName() + " has " + fields + " fields", fields <= 20, true);
            return super.visitClass(tree, none);
        }

        @Override
        public Void visitMethod(MethodTree tree, Void none) {
            Element before = inside;
            inside = trees.getElement(getCurrentPath());
            calls.computeIfAbsent(inside, e -> new LinkedHashSet<>());
            long lines = lineOf(places.getEndPosition(unit, tree)) - lineOf(places.getStartPosition(unit, tree)) + 1;
            T.due(tree.getName() + " has " + lines + " lines", lines <= 60 || places.getEndPosition(unit, tree) < 0, true);
            T.due(tree.getName() + " takes " + tree.getParameters().size(), tree.getParameters().size() <= 7, true);
            super.visitMethod(tree, none);
            inside = before;
            return null;
        }

        @Override
        public Void visitMethodInvocation(MethodInvocationTree tree, Void none) {
            Element called = trees.getElement(getCurrentPath());
            if (called instanceof ExecutableElement) {
                String owner = called.getEnclosingElement().toString();
                boolean own = owner.startsWith("RingVillage");
                boolean superCall = called.getKind() == ElementKind.CONSTRUCTOR;
                if (!own && !superCall && !LIBRARY.contains(owner + "." + called.getSimpleName())) {
                    refuse(tree, "calls " + owner + "." + called.getSimpleName());
                }
                if (inside != null && !called.equals(inside)) {
                    calls.get(inside).add(called);
                }
            }
            return super.visitMethodInvocation(tree, none);
        }

        @Override
        public Void visitNewClass(NewClassTree tree, Void none) {
            if (tree.getClassBody() != null) {
                refuse(tree, "an anonymous class");
            }
            refuseInCalls(tree);
            return super.visitNewClass(tree, none);
        }

        @Override
        public Void visitNewArray(NewArrayTree tree, Void none) {
            refuseInCalls(tree);
            return super.visitNewArray(tree, none);
        }

        /** All is made with the object, so that no number of calls fills the room. */
        private void refuseInCalls(Tree tree) {
            if (inside != null && inside.getKind() != ElementKind.CONSTRUCTOR) {
                refuse(tree, "an object that a call makes");
            }
        }

        @Override
        public Void visitBinary(BinaryTree tree, Void none) {
            if (tree.getKind() == Tree.Kind.PLUS && String.valueOf(trees.getTypeMirror(getCurrentPath())).equals("java.lang.String")) {
                refuse(tree, "texts joined by +");
            }
            return super.visitBinary(tree, none);
        }

        @Override
        public Void visitThrow(ThrowTree tree, Void none) {
            refuse(tree, "throw");
            return super.visitThrow(tree, none);
        }

        @Override
        public Void visitTry(TryTree tree, Void none) {
            refuse(tree, "try");
            return super.visitTry(tree, none);
        }

        @Override
        public Void visitSynchronized(SynchronizedTree tree, Void none) {
            refuse(tree, "synchronized");
            return super.visitSynchronized(tree, none);
        }

        @Override
        public Void visitAssert(AssertTree tree, Void none) {
            refuse(tree, "assert");
            return super.visitAssert(tree, none);
        }

        @Override
        public Void visitLambdaExpression(LambdaExpressionTree tree, Void none) {
            refuse(tree, "a lambda");
            return super.visitLambdaExpression(tree, none);
        }

        @Override
        public Void visitMemberReference(MemberReferenceTree tree, Void none) {
            refuse(tree, "a method reference");
            return super.visitMemberReference(tree, none);
        }

        /** How deep calls go, the library's counted too, a method that calls itself counted once. */
        private int depth(Element method, Map<Element, Integer> known, List<Element> open) {
            if (known.containsKey(method)) {
                return known.get(method);
            }
            if (open.contains(method)) {
                T.due("methods that call one another: " + open, 1, 0);
                return 0;
            }
            open.add(method);
            int deepest = 0;
            for (Element called : calls.getOrDefault(method, Set.of())) {
                deepest = Math.max(deepest, depth(called, known, open));
            }
            open.remove(method);
            known.put(method, deepest + 1);
            return deepest + 1;
        }

        void judge() {
            T.due("there are " + classes + " classes", classes <= 12, true);
            Map<Element, Integer> known = new HashMap<>();
            for (Element method : calls.keySet()) {
                int deep = depth(method, known, new ArrayList<>());
                T.due("calls of " + method + " go " + deep + " deep", deep <= 8, true);
            }
            T.due("methods were seen", known.size() > 43, true);
        }
    }
}
