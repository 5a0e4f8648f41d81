import com.sun.source.tree.AssertTree;
import com.sun.source.tree.BinaryTree;
import com.sun.source.tree.CatchTree;
import com.sun.source.tree.ClassTree;
import com.sun.source.tree.CompilationUnitTree;
import com.sun.source.tree.ImportTree;
import com.sun.source.tree.InstanceOfTree;
import com.sun.source.tree.LambdaExpressionTree;
import com.sun.source.tree.LineMap;
import com.sun.source.tree.MemberReferenceTree;
import com.sun.source.tree.MethodInvocationTree;
import com.sun.source.tree.MethodTree;
import com.sun.source.tree.NewArrayTree;
import com.sun.source.tree.SynchronizedTree;
import com.sun.source.tree.ThrowTree;
import com.sun.source.tree.Tree;
import com.sun.source.tree.TryTree;
import com.sun.source.tree.TypeCastTree;
import com.sun.source.tree.VariableTree;
import com.sun.source.util.JavacTask;
import com.sun.source.util.TreePath;
import com.sun.source.util.TreePathScanner;
import com.sun.source.util.Trees;
import java.io.File;
import java.lang.reflect.Constructor;
import java.lang.reflect.Field;
import java.lang.reflect.Method;
import java.lang.reflect.Modifier;
import java.nio.file.Files;
import java.nio.file.Path;
import java.util.HashMap;
import java.util.HashSet;
import java.util.List;
import java.util.Map;
import java.util.Set;
import java.util.TreeSet;
import javax.lang.model.element.Element;
import javax.lang.model.type.TypeKind;
import javax.lang.model.type.TypeMirror;
import javax.tools.JavaCompiler;
import javax.tools.StandardJavaFileManager;
import javax.tools.ToolProvider;

/** The rules of LANGUAGE.md that can be seen in the source. */
public final class LanguageTest {
    private static final Set<String> FACE = Set.of("feed", "end", "fault", "text", "rule", "line", "waiting", "station", "hop", "come",
        "tick", "cut", "heal", "eraser", "withdraw", "reserve", "reserved", "years", "status", "undo", "log", "arrival", "ahead",
        "when", "next", "drained", "share", "fair", "firstCome", "worst", "gain", "spread", "mean", "hurt", "step", "run", "perform",
        "all", "image", "back", "count");
    private static final Set<String> LIBRARY = Set.of("java.lang.String.length", "java.lang.String.indexOf", "java.lang.String.charAt",
        "java.lang.System.arraycopy", "java.lang.Math.min", "java.lang.Math.max", "java.lang.Integer.bitCount", "java.lang.Object.<init>",
        "java.lang.Object.super");

    private static final Map<String, Set<String>> CALLS = new HashMap<>();
    private static int methods = 0;

    private static void mustBe(boolean so, String what) {
        Check.due(what, so, true);
    }

    private static void lookAtFace() {
        Class<?> c = SlotBuses.class;
        Set<String> open = new TreeSet<>();
        for (Method m : c.getDeclaredMethods()) {
            if (!Modifier.isPrivate(m.getModifiers()) && !m.isSynthetic()) {
                mustBe(Modifier.isPublic(m.getModifiers()) && FACE.contains(m.getName()), "rule 1, of the face: " + m.getName());
                mustBe(open.add(m.getName()), "rule 1, once: " + m.getName());
            } else {
                mustBe(!FACE.contains(m.getName()), "rule 1, a private name: " + m.getName());
            }
        }
        mustBe(open.equals(new TreeSet<>(FACE)), "rule 1, the whole face");
        for (Field f : c.getDeclaredFields()) {
            boolean constant = f.getName().equals("NONE") || f.getName().equals("HIDDEN");
            mustBe(constant == Modifier.isPublic(f.getModifiers()) && constant != Modifier.isPrivate(f.getModifiers()),
                "rule 1, a field: " + f.getName());
        }
        Constructor<?>[] made = c.getDeclaredConstructors();
        mustBe(made.length == 1 && Modifier.isPublic(made[0].getModifiers()), "rule 1, one constructor");
        mustBe(Modifier.isFinal(c.getModifiers()) && Modifier.isPublic(c.getModifiers()), "rule 1, final");
        for (Class<?> inner : c.getDeclaredClasses()) {
            mustBe(Modifier.isStatic(inner.getModifiers()) && Modifier.isPrivate(inner.getModifiers()), "rule 1, static: " + inner);
            for (Method m : inner.getDeclaredMethods()) mustBe(!FACE.contains(m.getName()), "a name of the face: " + m);
        }
        mustBe(c.getDeclaredClasses().length <= 11, "rule 11, some twelve classes");
    }

    /** What the class shows, in the words of the document's face. */
    private static Set<String> shown() throws IllegalAccessException {
        Set<String> lines = new TreeSet<>();
        for (Method m : SlotBuses.class.getDeclaredMethods()) {
            if (Modifier.isPublic(m.getModifiers())) {
                lines.add(Modifier.toString(m.getModifiers()) + " " + m.getReturnType().getSimpleName() + " " + m.getName() + typesOf(m.getParameterTypes())
                    + (m.getExceptionTypes().length == 0 ? "" : " throws " + m.getExceptionTypes()[0].getSimpleName()));
            }
        }
        for (Constructor<?> made : SlotBuses.class.getDeclaredConstructors()) lines.add("public SlotBuses" + typesOf(made.getParameterTypes()));
        for (Field f : SlotBuses.class.getFields()) {
            lines.add(Modifier.toString(f.getModifiers()) + " " + f.getType().getSimpleName() + " " + f.getName() + " = " + f.getInt(null));
        }
        return lines;
    }

    private static String typesOf(Class<?>[] types) {
        StringBuilder text = new StringBuilder("(");
        for (Class<?> type : types) text.append(text.length() == 1 ? "" : ", ").append(type.getSimpleName());
        return text.append(")").toString();
    }

    private static void lookAtDocument(Path doc) throws Exception {
        if (!Files.exists(doc)) {
            System.out.println("no " + doc + ": the face is not held against it");
            return;
        }
        String all = Files.readString(doc);
        String face = all.substring(all.indexOf("public final class SlotBuses {") + 30, all.indexOf("## Terms"));
        Set<String> due = new TreeSet<>();
        for (String line : face.substring(0, face.indexOf("}")).split(";")) {
            // Names of parameters are free.
            if (!line.isBlank()) due.add(line.trim().replaceAll("(int|long) \\w+(?=[,)])", "$1"));
        }
        Set<String> shown = shown();
        mustBe(due.size() == FACE.size() + 3, "the document's face was read");
        for (String line : due) mustBe(shown.contains(line), "rule 1, the document's " + line);
        for (String line : shown) mustBe(due.contains(line), "rule 1, not the document's: " + line);
    }

    /** Goes through the source once. */
    private static final class Walk extends TreePathScanner<Void, String> {
        private final Trees trees;
        private final CompilationUnitTree unit;

        Walk(Trees trees, CompilationUnitTree unit) {
            this.trees = trees;
            this.unit = unit;
        }

        private long lineOf(Tree tree, boolean end) {
            LineMap map = unit.getLineMap();
            long at = end ? trees.getSourcePositions().getEndPosition(unit, tree)
                : trees.getSourcePositions().getStartPosition(unit, tree);
            return map.getLineNumber(Math.max(0, at));
        }

        private void no(Tree tree, String what) {
            mustBe(false, what + " in line " + lineOf(tree, false));
        }

        private TypeMirror typeOf(Tree tree) {
            return trees.getTypeMirror(new TreePath(getCurrentPath(), tree));
        }

        private static String nameOf(Element method) {
            return method.getEnclosingElement() + "." + method.getSimpleName();
        }

        @Override public Void visitImport(ImportTree tree, String in) {
            mustBe(tree.getQualifiedIdentifier().toString().equals("java.util.NoSuchElementException"), "rule 4, " + tree);
            return null;
        }

        @Override public Void visitClass(ClassTree tree, String in) {
            int fields = 0;
            for (Tree member : tree.getMembers()) {
                if (member instanceof VariableTree) {
                    String flags = ((VariableTree) member).getModifiers().toString();
                    boolean constant = flags.contains("static");
                    mustBe(!constant || flags.contains("final"), "rule 5, " + member);
                    fields += constant ? 0 : 1;
                }
            }
            mustBe(fields <= 20, "rule 11, fields of " + tree.getSimpleName());
            return super.visitClass(tree, in);
        }

        @Override public Void visitMethod(MethodTree tree, String in) {
            methods++;
            String name = nameOf(trees.getElement(getCurrentPath()));
            CALLS.putIfAbsent(name, new HashSet<>());
            mustBe(tree.getParameters().size() <= 7, "rule 11, parameters of " + name);
            mustBe(lineOf(tree, true) - lineOf(tree, false) <= 60, "rule 11, length of " + name);
            return super.visitMethod(tree, name);
        }

        @Override public Void visitMethodInvocation(MethodInvocationTree tree, String in) {
            Element to = trees.getElement(new TreePath(getCurrentPath(), tree.getMethodSelect()));
            String name = nameOf(to);
            if (name.startsWith("SlotBuses")) {
                CALLS.get(in).add(name);
            } else {
                mustBe(LIBRARY.contains(name), "rule 4, " + name + " in " + in);
            }
            return super.visitMethodInvocation(tree, in);
        }

        @Override public Void visitThrow(ThrowTree tree, String in) {
            mustBe(in.equals("SlotBuses.line"), "a throw in " + in);
            return super.visitThrow(tree, in);
        }

        @Override public Void visitBinary(BinaryTree tree, String in) {
            if (tree.getKind() == Tree.Kind.PLUS && typeOf(tree).getKind() == TypeKind.DECLARED) no(tree, "rule 10, + of texts");
            boolean divides = tree.getKind() == Tree.Kind.DIVIDE || tree.getKind() == Tree.Kind.REMAINDER;
            if (divides && typeOf(tree).getKind() == TypeKind.DOUBLE) no(tree, "a double");
            return super.visitBinary(tree, in);
        }

        @Override public Void visitTypeCast(TypeCastTree tree, String in) {
            if (!typeOf(tree).getKind().isPrimitive()) no(tree, "a cast of objects");
            return super.visitTypeCast(tree, in);
        }

        @Override public Void visitNewArray(NewArrayTree tree, String in) {
            if (in != null && !in.endsWith("<init>")) no(tree, "an array made in " + in);
            return super.visitNewArray(tree, in);
        }

        @Override public Void visitLambdaExpression(LambdaExpressionTree tree, String in) {
            no(tree, "rule 2, a lambda");
            return null;
        }

        @Override public Void visitMemberReference(MemberReferenceTree tree, String in) {
            no(tree, "rule 2, a method reference");
            return null;
        }

        @Override public Void visitTry(TryTree tree, String in) {
            no(tree, "rule 6, a try");
            return null;
        }

        @Override public Void visitCatch(CatchTree tree, String in) {
            no(tree, "rule 6, a catch");
            return null;
        }

        @Override public Void visitSynchronized(SynchronizedTree tree, String in) {
            no(tree, "rule 6, synchronized");
            return null;
        }

        @Override public Void visitAssert(AssertTree tree, String in) {
            no(tree, "rule 6, assert");
            return null;
        }

        @Override public Void visitInstanceOf(InstanceOfTree tree, String in) {
            no(tree, "instanceof");
            return null;
        }
    }

    /** How many calls stand open at once from this one on. */
    private static int depth(String method, Set<String> open) {
        mustBe(open.add(method), "rule 8, " + method + " calls itself");
        int deepest = 0;
        if (open.size() < 30) {
            for (String to : CALLS.getOrDefault(method, Set.of())) deepest = Math.max(deepest, depth(to, open));
        }
        open.remove(method);
        return deepest + 1;
    }

    public static void main(String[] args) throws Exception {
        lookAtFace();
        lookAtDocument(Path.of(args.length > 0 ? args[0] : ".", "..", "shared", "DOC.md"));
        File source = new File(args.length > 0 ? args[0] : ".", "src/main/java/SlotBuses.java");
        JavaCompiler compiler = ToolProvider.getSystemJavaCompiler();
        StandardJavaFileManager files = compiler.getStandardFileManager(null, null, null);
        JavacTask task = (JavacTask) compiler.getTask(null, files, null, List.of("-proc:none"), null, files.getJavaFileObjects(source));
        CompilationUnitTree unit = task.parse().iterator().next();
        task.analyze();
        mustBe(unit.getPackageName() == null, "no package");
        new Walk(Trees.instance(task), unit).scan(unit, null);
        for (String method : CALLS.keySet()) {
            if (method.startsWith("SlotBuses.") && FACE.contains(method.substring(10))) {
                int deep = depth(method, new HashSet<>());
                mustBe(deep <= 8, "rule 11, " + deep + " deep from " + method);
            }
        }
        mustBe(methods > 100, "the source was looked through");
        Check.finish();
    }
}
