import com.sun.source.tree.BinaryTree;
import com.sun.source.tree.ClassTree;
import com.sun.source.tree.CompilationUnitTree;
import com.sun.source.tree.CompoundAssignmentTree;
import com.sun.source.tree.ForLoopTree;
import com.sun.source.tree.LineMap;
import com.sun.source.tree.MethodInvocationTree;
import com.sun.source.tree.MethodTree;
import com.sun.source.tree.NewArrayTree;
import com.sun.source.tree.NewClassTree;
import com.sun.source.tree.Tree;
import com.sun.source.tree.Tree.Kind;
import com.sun.source.tree.VariableTree;
import com.sun.source.util.JavacTask;
import com.sun.source.util.SourcePositions;
import com.sun.source.util.TreePath;
import com.sun.source.util.TreePathScanner;
import com.sun.source.util.Trees;
import java.io.IOException;
import java.nio.file.Path;
import java.util.LinkedHashMap;
import java.util.LinkedHashSet;
import java.util.List;
import java.util.Map;
import java.util.Set;
import java.util.regex.Pattern;
import javax.lang.model.element.Element;
import javax.lang.model.element.ElementKind;
import javax.lang.model.element.Modifier;
import javax.lang.model.element.VariableElement;
import javax.tools.JavaCompiler;
import javax.tools.StandardJavaFileManager;
import javax.tools.ToolProvider;

/** Rules of LANGUAGE.md, looked up in the tree that the compiler makes of the program. */
public final class LanguageTest extends TreePathScanner<Void, Void> {
    private static final Path PROGRAM = Path.of("src/main/java/LongestMet.java");
    private static final int MOST_DEEP = 8, MOST_LINES = 60, MOST_PARAMETERS = 7, MOST_CLASSES = 12, MOST_FIELDS = 20;
    /** Of what rule 4 allows, that which the program needs. */
    private static final Set<String> LIBRARY = Set.of("Integer.bitCount", "Long.bitCount", "Math.min", "Math.max", "System.arraycopy");
    private static final Set<String> TYPES = Set.of("int", "long", "boolean", "int[]", "long[]", "int[][]");
    private static final Set<Kind> NEVER = Set.of(Kind.THROW, Kind.TRY, Kind.SYNCHRONIZED, Kind.ASSERT, Kind.LAMBDA_EXPRESSION,
        Kind.MEMBER_REFERENCE, Kind.INSTANCE_OF, Kind.STRING_LITERAL, Kind.WHILE_LOOP, Kind.DO_WHILE_LOOP, Kind.INTERFACE, Kind.ENUM,
        Kind.RECORD, Kind.ANNOTATION, Kind.IMPORT, Kind.NULL_LITERAL);

    private final CompilationUnitTree unit;
    private final Trees trees;
    private final Map<Element, Set<Element>> calls = new LinkedHashMap<>();
    private int classes = 0;

    private LanguageTest(CompilationUnitTree unit, Trees trees) {
        this.unit = unit;
        this.trees = trees;
    }

    public static void main(String[] args) throws IOException {
        JavaCompiler compiler = ToolProvider.getSystemJavaCompiler();
        try (StandardJavaFileManager files = compiler.getStandardFileManager(null, null, null)) {
            JavacTask task = (JavacTask) compiler.getTask(null, files, null, List.of("-proc:none"), null, files.getJavaFileObjects(PROGRAM));
            CompilationUnitTree unit = task.parse().iterator().next();
            task.analyze();
            LanguageTest test = new LanguageTest(unit, Trees.instance(task));
            test.scan(unit, null);
            test.classesAndCalls();
        }
        Due.end();
    }

    private void classesAndCalls() {
        Due.isTrue("rule 11: some twelve classes, not " + classes, classes <= MOST_CLASSES);
        Due.isTrue("the tree was read", calls.size() > 100);
        for (Element method : calls.keySet()) {
            int deep = depth(method, new LinkedHashSet<>());
            Due.isTrue("rule 11: calls from " + method + " go " + deep + " deep", deep <= MOST_DEEP);
        }
    }

    /** How many calls stand open at once, from this one on; none may come again behind itself. */
    private int depth(Element method, Set<Element> open) {
        open.add(method);
        int below = 0;
        for (Element next : calls.getOrDefault(method, Set.of())) {
            if (!open.contains(next)) below = Math.max(below, depth(next, open));
            else Due.isTrue("rule 8: " + next + " is called again by " + open, false);
        }
        open.remove(method);
        return below + 1;
    }

    @Override
    public Void scan(Tree tree, Void none) {
        if (tree != null) Due.isTrue(at(tree) + "rules 2, 6, 9: not in the program: " + tree.getKind(), !NEVER.contains(tree.getKind()));
        return super.scan(tree, none);
    }

    @Override
    public Void visitClass(ClassTree tree, Void none) {
        classes++;
        boolean outer = getCurrentPath().getParentPath().getLeaf() == unit;
        boolean inside = getCurrentPath().getParentPath().getLeaf() instanceof ClassTree && tree.getModifiers().getFlags().contains(Modifier.STATIC);
        Due.isTrue(at(tree) + "rule 2: a class inside is static, none is local", outer || inside);
        int fields = 0;
        for (Tree member : tree.getMembers()) {
            Due.isTrue(at(member) + "rule 5: no initialiser block", member.getKind() != Kind.BLOCK);
            if (member instanceof VariableTree field && !field.getModifiers().getFlags().contains(Modifier.STATIC)) fields++;
        }
        Due.isTrue(at(tree) + "rule 11: some twenty fields, not " + fields, fields <= MOST_FIELDS);
        return super.visitClass(tree, none);
    }

    @Override
    public Void visitMethod(MethodTree tree, Void none) {
        SourcePositions places = trees.getSourcePositions();
        LineMap map = unit.getLineMap();
        boolean written = places.getEndPosition(unit, tree) > places.getStartPosition(unit, tree);
        long lines = written ? map.getLineNumber(places.getEndPosition(unit, tree)) - map.getLineNumber(places.getStartPosition(unit, tree)) : 0;
        Due.isTrue(at(tree) + "rule 11: methods stay short: " + lines, lines <= MOST_LINES);
        Due.isTrue(at(tree) + "rule 11: at most seven parameters", tree.getParameters().size() <= MOST_PARAMETERS);
        calls.putIfAbsent(trees.getElement(getCurrentPath()), new LinkedHashSet<>());
        return super.visitMethod(tree, none);
    }

    @Override
    public Void visitMethodInvocation(MethodInvocationTree tree, Void none) {
        Element called = trees.getElement(getCurrentPath());
        Element caller = trees.getElement(pathTo(Kind.METHOD));
        String owner = called.getEnclosingElement().toString();
        if (owner.startsWith("LongestMet")) {
            calls.computeIfAbsent(caller, m -> new LinkedHashSet<>()).add(called);
        } else if (called.getKind() == ElementKind.METHOD) {
            String name = owner.replace("java.lang.", "") + "." + called.getSimpleName();
            Due.isTrue(at(tree) + "rule 4: the library is not used but for what is told: " + name, LIBRARY.contains(name));
        }
        return super.visitMethodInvocation(tree, none);
    }

    @Override
    public Void visitVariable(VariableTree tree, Void none) {
        Element element = trees.getElement(getCurrentPath());
        String type = element.asType().toString();
        Due.isTrue(at(tree) + "rule 3: not a type of the program: " + type, TYPES.contains(type) || type.startsWith("LongestMet."));
        if (element.getKind() == ElementKind.FIELD && element.getModifiers().contains(Modifier.STATIC)) {
            Due.isTrue(at(tree) + "rule 5: a static field is a constant", ((VariableElement) element).getConstantValue() != null);
        }
        return super.visitVariable(tree, none);
    }

    @Override
    public Void visitForLoop(ForLoopTree tree, Void none) {
        boolean ends = tree.getCondition() != null && tree.getUpdate().size() == 1 && tree.getInitializer().size() == 1;
        Due.isTrue(at(tree) + "rule 9: a loop has a counter and a bound", ends);
        return super.visitForLoop(tree, none);
    }

    @Override
    public Void visitNewArray(NewArrayTree tree, Void none) {
        madeAtFirst(tree);
        return super.visitNewArray(tree, none);
    }

    @Override
    public Void visitNewClass(NewClassTree tree, Void none) {
        madeAtFirst(tree);
        return super.visitNewClass(tree, none);
    }

    /** README says so: what is made is made with the object, so that no run of calls can fill the room. */
    private void madeAtFirst(Tree tree) {
        TreePath method = pathTo(Kind.METHOD);
        boolean first = method == null || trees.getElement(method).getKind() == ElementKind.CONSTRUCTOR;
        Due.isTrue(at(tree) + "rule 12: no call makes an object", first);
    }

    @Override
    public Void visitBinary(BinaryTree tree, Void none) {
        boolean divides = tree.getKind() == Kind.DIVIDE || tree.getKind() == Kind.REMAINDER;
        if (divides) divisorIsLookedAt(tree, tree.getRightOperand());
        return super.visitBinary(tree, none);
    }

    @Override
    public Void visitCompoundAssignment(CompoundAssignmentTree tree, Void none) {
        boolean divides = tree.getKind() == Kind.DIVIDE_ASSIGNMENT || tree.getKind() == Kind.REMAINDER_ASSIGNMENT;
        if (divides) divisorIsLookedAt(tree, tree.getExpression());
        return super.visitCompoundAssignment(tree, none);
    }

    /** A divisor is a constant, is compared with 0 in the same method, or is a counter from 1 on. */
    private void divisorIsLookedAt(Tree division, Tree divisor) {
        Element element = trees.getElement(new TreePath(getCurrentPath(), divisor));
        boolean constant = divisor.getKind() == Kind.INT_LITERAL && !divisor.toString().equals("0")
            || element instanceof VariableElement variable && variable.getConstantValue() instanceof Integer number && number != 0;
        String name = Pattern.quote(divisor.toString());
        Pattern looked = Pattern.compile(name + " (!=|==|>|<=) 0|int " + name + " = 1;");
        boolean compared = pathTo(Kind.METHOD) != null && looked.matcher(pathTo(Kind.METHOD).getLeaf().toString()).find();
        Due.isTrue(at(division) + "rule 7: a divisor is looked at: " + divisor, constant || compared);
    }

    private TreePath pathTo(Kind kind) {
        for (TreePath path = getCurrentPath(); path != null; path = path.getParentPath()) {
            if (path.getLeaf().getKind() == kind) return path;
        }
        return null;
    }

    private String at(Tree tree) {
        long start = trees.getSourcePositions().getStartPosition(unit, tree);
        return start < 0 ? "" : "line " + unit.getLineMap().getLineNumber(start) + ", ";
    }
}
