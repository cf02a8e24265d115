import com.sun.source.tree.BinaryTree;
import com.sun.source.tree.ClassTree;
import com.sun.source.tree.CompilationUnitTree;
import com.sun.source.tree.MethodInvocationTree;
import com.sun.source.tree.MethodTree;
import com.sun.source.tree.NewClassTree;
import com.sun.source.tree.Tree;
import com.sun.source.tree.VariableTree;
import com.sun.source.util.JavacTask;
import com.sun.source.util.TreePath;
import com.sun.source.util.TreePathScanner;
import com.sun.source.util.Trees;
import java.nio.file.Path;
import java.util.HashMap;
import java.util.LinkedHashSet;
import java.util.List;
import java.util.Map;
import java.util.Set;
import javax.lang.model.element.Element;
import javax.lang.model.element.Modifier;
import javax.lang.model.element.TypeElement;
import javax.tools.JavaCompiler;
import javax.tools.StandardJavaFileManager;
import javax.tools.ToolProvider;

/** The program keeps to LANGUAGE.md, as far as its tree of syntax tells. */
public final class LanguageTest {
    private static final Check CHECK = new Check();

    /** What rule 4 leaves and the program has a use for. */
    private static final Set<String> LIBRARY = Set.of(
        "java.lang.Object.<init>",
        "java.lang.String.length", "java.lang.String.charAt", "java.lang.String.isEmpty",
        "java.lang.String.equals", "java.lang.String.indexOf", "java.lang.String.substring",
        "java.lang.StringBuilder.<init>", "java.lang.StringBuilder.append", "java.lang.StringBuilder.length",
        "java.lang.StringBuilder.setLength", "java.lang.StringBuilder.toString",
        "java.lang.Math.abs", "java.lang.Math.floorDiv", "java.lang.Math.floorMod",
        "java.lang.System.arraycopy",
        "java.lang.IllegalStateException.<init>", "java.lang.IllegalArgumentException.<init>",
        "java.util.NoSuchElementException.<init>");

    /** What rules 2 and 6 rule out, and a try, for which there is no need. */
    private static final Set<Tree.Kind> RULED_OUT = Set.of(
        Tree.Kind.LAMBDA_EXPRESSION, Tree.Kind.MEMBER_REFERENCE, Tree.Kind.TRY, Tree.Kind.SYNCHRONIZED,
        Tree.Kind.ASSERT, Tree.Kind.INSTANCE_OF, Tree.Kind.ANNOTATION);

    private static final Map<Element, Set<Element>> CALLS = new HashMap<>();
    private static final Map<Element, Integer> DEPTHS = new HashMap<>();
    private static int classes;

    public static void main(String[] args) throws Exception {
        JavaCompiler compiler = ToolProvider.getSystemJavaCompiler();
        try (StandardJavaFileManager files = compiler.getStandardFileManager(null, null, null)) {
            JavacTask task = (JavacTask) compiler.getTask(null, files, null, List.of("--release", "17"), null,
                files.getJavaFileObjects(Path.of("src/main/java/ZoneDesk.java")));
            CompilationUnitTree unit = task.parse().iterator().next();
            task.analyze();
            CHECK.due("a package", null, unit.getPackage());
            new Reader(unit, Trees.instance(task)).scan(unit, null);
        }
        CHECK.sentence("rule 11");
        CHECK.due("at most twelve classes", true, classes <= 12);
        for (Element method : List.copyOf(CALLS.keySet())) {
            CHECK.due(method + " is at most eight calls deep", true, depth(method, 0) <= 8);
        }
        CHECK.finish();
    }

    /** Calls of the library count too; a method that calls itself comes out far too deep. */
    private static int depth(Element method, int above) {
        if (above > 20) {
            return 20;
        }
        if (!DEPTHS.containsKey(method)) {
            int below = 0;
            for (Element called : CALLS.getOrDefault(method, Set.of())) {
                below = Math.max(below, depth(called, above + 1));
            }
            DEPTHS.put(method, below + 1);
        }
        return DEPTHS.get(method);
    }

    private static final class Reader extends TreePathScanner<Void, Void> {
        private final CompilationUnitTree unit;
        private final Trees trees;
        private Element method;

        Reader(CompilationUnitTree unit, Trees trees) {
            this.unit = unit;
            this.trees = trees;
        }

        @Override
        public Void scan(Tree tree, Void none) {
            if (tree != null) {
                CHECK.sentence("rules 2 and 6");
                CHECK.due(tree + " is ruled out", false, RULED_OUT.contains(tree.getKind()));
            }
            return super.scan(tree, none);
        }

        @Override
        public Void visitClass(ClassTree tree, Void none) {
            classes++;
            CHECK.sentence("rule 11");
            long fields = tree.getMembers().stream()
                .filter(m -> m instanceof VariableTree v && !v.getModifiers().getFlags().contains(Modifier.STATIC)).count();
            CHECK.due(tree.getSimpleName() + " has at most twenty fields", true, fields <= 20);
            CHECK.sentence("rule 5");
            for (Tree member : tree.getMembers()) {
                CHECK.due("a block of its own in " + tree.getSimpleName(), false, member.getKind() == Tree.Kind.BLOCK);
                if (member instanceof VariableTree field && field.getModifiers().getFlags().contains(Modifier.STATIC)) {
                    CHECK.due(field + " is a constant", true, field.getModifiers().getFlags().contains(Modifier.FINAL)
                        && Set.of("int", "long", "String").contains(field.getType().toString()));
                }
            }
            return super.visitClass(tree, none);
        }

        @Override
        public Void visitMethod(MethodTree tree, Void none) {
            Element outside = method;
            method = trees.getElement(getCurrentPath());
            CALLS.putIfAbsent(method, new LinkedHashSet<>());
            CHECK.sentence("rule 11");
            CHECK.due(method + " takes at most seven", true, tree.getParameters().size() <= 7);
            CHECK.due(method + " is short", true, linesOf(tree) <= 60);
            super.visitMethod(tree, none);
            method = outside;
            return null;
        }

        private long linesOf(Tree tree) {
            // A constructor that javac adds has no place in the file.
            long start = trees.getSourcePositions().getStartPosition(unit, tree);
            long end = trees.getSourcePositions().getEndPosition(unit, tree);
            return end < 0 ? 0 : unit.getLineMap().getLineNumber(end) - unit.getLineMap().getLineNumber(start) + 1;
        }

        @Override
        public Void visitMethodInvocation(MethodInvocationTree tree, Void none) {
            called(trees.getElement(new TreePath(getCurrentPath(), tree.getMethodSelect())));
            return super.visitMethodInvocation(tree, none);
        }

        @Override
        public Void visitNewClass(NewClassTree tree, Void none) {
            called(trees.getElement(getCurrentPath()));
            return super.visitNewClass(tree, none);
        }

        private void called(Element element) {
            // StringBuilder has some of its methods from a class that can't be seen.
            String owner = ((TypeElement) element.getEnclosingElement()).getQualifiedName().toString()
                .replace("AbstractStringBuilder", "StringBuilder");
            CHECK.sentence("rule 4");
            CHECK.due(owner + "." + element.getSimpleName() + " may be called", true,
                owner.startsWith("ZoneDesk") || LIBRARY.contains(owner + "." + element.getSimpleName()));
            // What a field is made with counts for no method; it makes rows and calls nothing deeper.
            if (method != null && !owner.equals("java.lang.Object")) {
                CALLS.get(method).add(element);
            }
        }

        @Override
        public Void visitBinary(BinaryTree tree, Void none) {
            CHECK.sentence("rule 10");
            if (tree.getKind() == Tree.Kind.PLUS) {
                String type = trees.getTypeMirror(getCurrentPath()).toString();
                CHECK.due(tree + " joins no texts", false, type.equals("java.lang.String"));
            }
            return super.visitBinary(tree, none);
        }
    }
}
