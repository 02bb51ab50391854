import com.sun.source.tree.BinaryTree;
import com.sun.source.tree.ClassTree;
import com.sun.source.tree.CompilationUnitTree;
import com.sun.source.tree.MethodInvocationTree;
import com.sun.source.tree.MethodTree;
import com.sun.source.tree.NewClassTree;
import com.sun.source.tree.Tree;
import com.sun.source.util.JavacTask;
import com.sun.source.util.TreePathScanner;
import com.sun.source.util.Trees;
import java.io.IOException;
import java.nio.file.Path;
import java.util.HashSet;
import java.util.LinkedHashMap;
import java.util.LinkedHashSet;
import java.util.List;
import java.util.Map;
import java.util.Set;
import javax.lang.model.element.Element;
import javax.lang.model.element.ExecutableElement;
import javax.tools.JavaCompiler;
import javax.tools.StandardJavaFileManager;
import javax.tools.ToolProvider;

/** Rules 4, 8, 11 and 12 of LANGUAGE.md, by the syntax tree of the class. */
public final class CallsInsideTest extends TreePathScanner<Void, Void> {
    private static final int DEEPEST = 8;
    private static final int MOST_PARAMETERS = 7;
    private static final int LONGEST = 60;
    // Those that rule 4 lists and the class has use for; another one of the list may be added.
    private static final Set<String> LIBRARY = Set.of("java.lang.String length()", "java.lang.String charAt(int)",
        "java.lang.StringBuilder StringBuilder()", "java.lang.StringBuilder append(char)",
        "java.lang.StringBuilder append(java.lang.String)", "java.lang.StringBuilder append(int)",
        "java.lang.StringBuilder charAt(int)", "java.lang.StringBuilder length()",
        "java.lang.Math max(int,int)", "java.lang.Math min(int,int)", "java.util.Arrays fill(int[],int)",
        "java.lang.System arraycopy(java.lang.Object,int,java.lang.Object,int,int)");
    private static int wrong = 0;

    private final Trees trees;
    private final CompilationUnitTree unit;
    // What is made ahead of a field is a call of the class itself.
    private final Map<Element, Set<Element>> calls = new LinkedHashMap<>();
    private Element inside = null;

    private CallsInsideTest(Trees trees, CompilationUnitTree unit) {
        this.trees = trees;
        this.unit = unit;
    }

    public static void main(String[] args) throws IOException {
        JavaCompiler compiler = ToolProvider.getSystemJavaCompiler();
        try (StandardJavaFileManager files = compiler.getStandardFileManager(null, null, null)) {
            JavacTask task = (JavacTask) compiler.getTask(null, files, null, List.of("-proc:none"), null,
                files.getJavaFileObjects(Path.of("src/main/java/StreamWeave.java")));
            CompilationUnitTree unit = task.parse().iterator().next();
            task.analyze();
            CallsInsideTest test = new CallsInsideTest(Trees.instance(task), unit);
            test.scan(unit, null);
            test.depths();
        }
        System.out.println(wrong == 0 ? "all rules are kept" : wrong + " rules are broken");
        if (wrong != 0) {
            System.exit(1);
        }
    }

    private static void rule(boolean kept, String what) {
        if (!kept) {
            wrong++;
            System.out.println(what);
        }
    }

    @Override
    public Void visitClass(ClassTree tree, Void none) {
        Element outer = inside;
        inside = trees.getElement(getCurrentPath());
        super.visitClass(tree, none);
        inside = outer;
        return null;
    }

    @Override
    public Void visitMethod(MethodTree tree, Void none) {
        Element outer = inside;
        inside = trees.getElement(getCurrentPath());
        callsOf(inside);
        rule(tree.getParameters().size() <= MOST_PARAMETERS, inside + " takes too many parameters");
        rule(lastRow(tree) - firstRow(tree) < LONGEST, inside + " is too long");
        super.visitMethod(tree, none);
        inside = outer;
        return null;
    }

    private Set<Element> callsOf(Element caller) {
        return calls.computeIfAbsent(caller, key -> new LinkedHashSet<>());
    }

    private long firstRow(Tree tree) {
        return unit.getLineMap().getLineNumber(trees.getSourcePositions().getStartPosition(unit, tree));
    }

    private long lastRow(Tree tree) {
        long end = trees.getSourcePositions().getEndPosition(unit, tree);
        // A constructor that is not written has no end.
        return end < 0 ? firstRow(tree) : unit.getLineMap().getLineNumber(end);
    }

    @Override
    public Void visitMethodInvocation(MethodInvocationTree tree, Void none) {
        called(trees.getElement(getCurrentPath()));
        return super.visitMethodInvocation(tree, none);
    }

    @Override
    public Void visitNewClass(NewClassTree tree, Void none) {
        called(trees.getElement(getCurrentPath()));
        return super.visitNewClass(tree, none);
    }

    private void called(Element element) {
        if (!(element instanceof ExecutableElement)) {
            rule(false, "a call in " + inside + " is not known");
            return;
        }
        String owner = element.getEnclosingElement().toString();
        if (owner.equals("StreamWeave") || owner.startsWith("StreamWeave.")) {
            callsOf(inside).add(element);
        } else if (!owner.equals("java.lang.Object")) {
            // The tree tells what StringBuilder inherits under the name of the class above it.
            String name = owner.replace("AbstractStringBuilder", "StringBuilder") + " " + element;
            rule(LIBRARY.contains(name), inside + " calls " + name);
        }
    }

    @Override
    public Void visitBinary(BinaryTree tree, Void none) {
        boolean divides = tree.getKind() == Tree.Kind.DIVIDE || tree.getKind() == Tree.Kind.REMAINDER;
        boolean safe = tree.getRightOperand().toString().equals("COUNTER_SPAN");
        rule(!divides || safe, inside + " divides by what may be 0: " + tree);
        return super.visitBinary(tree, none);
    }

    private void depths() {
        int deepest = 0;
        for (Element start : calls.keySet()) {
            deepest = Math.max(deepest, depth(start, new HashSet<>()));
        }
        rule(calls.size() > 40, "only " + calls.size() + " methods were found");
        rule(deepest > 3, "calls go only " + deepest + " deep: they were not found");
        rule(deepest <= DEEPEST, "calls go " + deepest + " deep");
    }

    /** How many methods stand open at once from this one on; a ring is told and not gone round. */
    private int depth(Element start, Set<Element> open) {
        if (!open.add(start)) {
            rule(false, start + " calls itself");
            return 0;
        }
        int deepest = 0;
        for (Element next : calls.getOrDefault(start, Set.of())) {
            deepest = Math.max(deepest, depth(next, open));
        }
        open.remove(start);
        return deepest + 1;
    }
}
