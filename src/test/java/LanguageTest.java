import com.sun.source.tree.ArrayTypeTree;
import com.sun.source.tree.ClassTree;
import com.sun.source.tree.CompilationUnitTree;
import com.sun.source.tree.MethodInvocationTree;
import com.sun.source.tree.MethodTree;
import com.sun.source.tree.NewArrayTree;
import com.sun.source.tree.NewClassTree;
import com.sun.source.tree.Tree;
import com.sun.source.tree.VariableTree;
import com.sun.source.util.JavacTask;
import com.sun.source.util.TreePathScanner;
import com.sun.source.util.Trees;
import java.io.IOException;
import java.nio.file.Path;
import java.util.EnumSet;
import java.util.HashSet;
import java.util.List;
import java.util.Map;
import java.util.Set;
import java.util.TreeMap;
import java.util.TreeSet;
import javax.lang.model.element.Element;
import javax.lang.model.element.Modifier;
import javax.tools.JavaCompiler;
import javax.tools.StandardJavaFileManager;
import javax.tools.ToolProvider;

/** The rules of LANGUAGE.md that can be seen in the program as the compiler reads it: what it calls, makes and holds. */
public final class LanguageTest extends TreePathScanner<Void, Void> {
    private static final Path SOURCE = Path.of("src/main/java/BlobRuns.java");
    // What the class uses of what rule 4 lists; one more is looked up there first.
    private static final Set<String> LIBRARY = Set.of("java.lang.Integer.bitCount", "java.lang.Math.max", "java.lang.Math.min",
        "java.lang.Math.floorMod", "java.lang.System.arraycopy");
    private static final Set<String> TYPES = Set.of("int", "boolean", "int[]", "boolean[]");
    private static final Set<Tree.Kind> FORBIDDEN = EnumSet.of(Tree.Kind.THROW, Tree.Kind.TRY, Tree.Kind.CATCH,
        Tree.Kind.SYNCHRONIZED, Tree.Kind.ASSERT, Tree.Kind.LAMBDA_EXPRESSION, Tree.Kind.MEMBER_REFERENCE, Tree.Kind.IMPORT,
        Tree.Kind.PACKAGE, Tree.Kind.TYPE_CAST, Tree.Kind.INSTANCE_OF, Tree.Kind.NULL_LITERAL, Tree.Kind.STRING_LITERAL,
        Tree.Kind.DIVIDE_ASSIGNMENT, Tree.Kind.REMAINDER_ASSIGNMENT, Tree.Kind.ANNOTATION, Tree.Kind.PARAMETERIZED_TYPE);
    private static final int MOST_LINES = 60, MOST_PARAMETERS = 7, DEEPEST = 8, MOST_CLASSES = 12, MOST_FIELDS = 20;

    private final Trees trees;
    private final CompilationUnitTree unit;
    private final Map<String, Set<String>> calls = new TreeMap<>();
    private final Set<String> classes = new TreeSet<>();
    private String method = "";
    private int wrong = 0;

    private LanguageTest(Trees trees, CompilationUnitTree unit) {
        this.trees = trees;
        this.unit = unit;
    }

    public static void main(String[] args) throws IOException {
        JavaCompiler compiler = ToolProvider.getSystemJavaCompiler();
        try (StandardJavaFileManager files = compiler.getStandardFileManager(null, null, null)) {
            JavacTask task = (JavacTask) compiler.getTask(null, files, null, List.of("-proc:none"), null, files.getJavaFileObjects(SOURCE));
            CompilationUnitTree unit = task.parse().iterator().next();
            task.analyze();
            LanguageTest test = new LanguageTest(Trees.instance(task), unit);
            test.scan(unit, null);
            test.wholeFile();
            System.out.println(test.wrong == 0 ? "the rules are kept in all that is written" : test.wrong + " things are against the rules");
            System.exit(test.wrong == 0 ? 0 : 1);
        }
    }

    private void ask(boolean holds, String rule, Tree at) {
        if (!holds) {
            wrong++;
            System.out.println(rule + ": line " + lineOf(trees.getSourcePositions().getStartPosition(unit, at)));
        }
    }

    private long lineOf(long position) {
        return unit.getLineMap().getLineNumber(position);
    }

    private boolean isField() {
        return getCurrentPath().getParentPath().getLeaf() instanceof ClassTree;
    }

    @Override
    public Void scan(Tree tree, Void none) {
        if (tree != null) {
            ask(!FORBIDDEN.contains(tree.getKind()), "rules 2 to 7: no " + tree.getKind(), tree);
        }
        return super.scan(tree, none);
    }

    @Override
    public Void visitClass(ClassTree tree, Void none) {
        String name = tree.getSimpleName().toString();
        classes.add(name);
        boolean outer = name.equals("BlobRuns");
        Set<Modifier> of = tree.getModifiers().getFlags();
        ask(outer || of.contains(Modifier.STATIC) && isField(), "rule 2: a class inside is static, none is local", tree);
        ask(outer || !of.contains(Modifier.PUBLIC) && !of.contains(Modifier.PROTECTED), "rule 1: no other public class", tree);
        int fields = 0;
        for (Tree member : tree.getMembers()) {
            ask(member.getKind() != Tree.Kind.BLOCK, "rule 5: no initialiser block", member);
            fields += member instanceof VariableTree field && !field.getModifiers().getFlags().contains(Modifier.STATIC) ? 1 : 0;
        }
        ask(fields <= MOST_FIELDS, "rule 11: fields of a class", tree);
        return super.visitClass(tree, none);
    }

    @Override
    public Void visitVariable(VariableTree tree, Void none) {
        String type = tree.getType().toString();
        ask(TYPES.contains(type) || isOwn(type), "rule 3: the type " + type, tree);
        if (isField() && tree.getModifiers().getFlags().contains(Modifier.STATIC)) {
            ask(tree.getModifiers().getFlags().contains(Modifier.FINAL), "rule 5: static fields are final", tree);
            ask(type.equals("int"), "rule 5: static fields are constants", tree);
        }
        return super.visitVariable(tree, none);
    }

    private static boolean isOwn(String type) {
        for (Class<?> inside : BlobRuns.class.getDeclaredClasses()) {
            if (inside.getSimpleName().equals(type)) {
                return true;
            }
        }
        return false;
    }

    @Override
    public Void visitArrayType(ArrayTypeTree tree, Void none) {
        ask(!(tree.getType() instanceof ArrayTypeTree), "rule 3: arrays of one dimension", tree);
        return super.visitArrayType(tree, none);
    }

    @Override
    public Void visitMethod(MethodTree tree, Void none) {
        String before = method;
        method = nameOf(trees.getElement(getCurrentPath()));
        calls.computeIfAbsent(method, name -> new TreeSet<>());
        ask(tree.getParameters().size() <= MOST_PARAMETERS, "rule 11: parameters of a method", tree);
        long first = lineOf(Math.max(0, trees.getSourcePositions().getStartPosition(unit, tree)));
        long last = lineOf(Math.max(0, trees.getSourcePositions().getEndPosition(unit, tree)));
        ask(last - first < MOST_LINES, "rule 11: lines of a method", tree);
        Void done = super.visitMethod(tree, none);
        method = before;
        return done;
    }

    @Override
    public Void visitMethodInvocation(MethodInvocationTree tree, Void none) {
        Element called = trees.getElement(getCurrentPath());
        String name = nameOf(called);
        if (name.startsWith("BlobRuns")) {
            calls.computeIfAbsent(method, caller -> new TreeSet<>()).add(name);
        } else {
            // A constructor's call of Object's stands in no line of the file.
            ask(LIBRARY.contains(name) || name.equals("java.lang.Object.<init>"), "rule 4: the library's " + name, tree);
        }
        return super.visitMethodInvocation(tree, none);
    }

    private static String nameOf(Element method) {
        return method.getEnclosingElement() + "." + method.getSimpleName();
    }

    @Override
    public Void visitNewClass(NewClassTree tree, Void none) {
        ask(tree.getClassBody() == null, "rule 2: no anonymous class", tree);
        ask(method.isEmpty(), "rule 12: rooms are made with the object, in no call", tree);
        return super.visitNewClass(tree, none);
    }

    @Override
    public Void visitNewArray(NewArrayTree tree, Void none) {
        ask(method.isEmpty(), "rule 12: rooms are made with the object, in no call", tree);
        return super.visitNewArray(tree, none);
    }

    private void wholeFile() {
        ask(classes.size() <= MOST_CLASSES, "rule 11: classes of the file", unit);
        ask(classes.size() > 1 && calls.size() > 21, "the file was read", unit);
        for (String name : calls.keySet()) {
            ask(depth(name, new HashSet<>()) <= DEEPEST, "rules 8, 11: calls from " + name, unit);
        }
    }

    /** How many calls stand open at once; a method that calls itself, by others too, counts as too many. */
    private int depth(String name, Set<String> open) {
        if (!open.add(name)) {
            return DEEPEST + 1;
        }
        int deepest = 0;
        for (String next : calls.getOrDefault(name, Set.of())) {
            deepest = Math.max(deepest, depth(next, open));
        }
        open.remove(name);
        return deepest + 1;
    }
}
