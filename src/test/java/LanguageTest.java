import com.sun.source.tree.AssertTree;
import com.sun.source.tree.BinaryTree;
import com.sun.source.tree.BlockTree;
import com.sun.source.tree.ClassTree;
import com.sun.source.tree.CompilationUnitTree;
import com.sun.source.tree.ExpressionTree;
import com.sun.source.tree.ImportTree;
import com.sun.source.tree.LambdaExpressionTree;
import com.sun.source.tree.LiteralTree;
import com.sun.source.tree.MemberReferenceTree;
import com.sun.source.tree.MethodInvocationTree;
import com.sun.source.tree.MethodTree;
import com.sun.source.tree.NewArrayTree;
import com.sun.source.tree.NewClassTree;
import com.sun.source.tree.PrimitiveTypeTree;
import com.sun.source.tree.SynchronizedTree;
import com.sun.source.tree.ThrowTree;
import com.sun.source.tree.Tree;
import com.sun.source.tree.TryTree;
import com.sun.source.tree.VariableTree;
import com.sun.source.tree.WhileLoopTree;
import com.sun.source.util.JavacTask;
import com.sun.source.util.SourcePositions;
import com.sun.source.util.TreePathScanner;
import com.sun.source.util.Trees;
import java.io.IOException;
import java.nio.file.Path;
import java.util.ArrayDeque;
import java.util.ArrayList;
import java.util.Deque;
import java.util.List;
import java.util.Map;
import java.util.Set;
import java.util.TreeMap;
import java.util.TreeSet;
import javax.lang.model.element.Element;
import javax.lang.model.element.ElementKind;
import javax.lang.model.element.ExecutableElement;
import javax.lang.model.element.Modifier;
import javax.lang.model.type.TypeKind;
import javax.tools.JavaCompiler;
import javax.tools.StandardJavaFileManager;
import javax.tools.ToolProvider;

/**
 * The rules of ../shared/LANGUAGE.md that can be seen in the program's tree; each answer names its rule.
 * It is stricter than they are where the program needs less: no try, no list, no double, no loop without a counter.
 */
public final class LanguageTest extends TreePathScanner<Void, Void> {
    private static final String PROGRAM = "src/main/java/ClockLodgers.java";
    private static final Set<String> IMPORTS = Set.of("java.util.Arrays", "java.util.NoSuchElementException");
    private static final Set<String> LIBRARY = Set.of("Arrays.fill", "System.arraycopy", "Math.max", "Math.min",
            "Math.abs", "Math.floorMod", "Integer.bitCount", "String.length", "String.charAt", "String.indexOf");
    private static final Set<String> THROWN = Set.of("IllegalArgumentException", "NoSuchElementException");
    private static final Set<TypeKind> TYPES = Set.of(TypeKind.INT, TypeKind.BYTE, TypeKind.CHAR, TypeKind.BOOLEAN,
            TypeKind.VOID);
    /** Constants, and those that were seen to be looked at ahead of each division; a new one is to be read first. */
    private static final Set<String> DIVISORS = Set.of("SLOTS_A_HALF", "b", "oilDays", "allRents", "ofDay");
    private static final int MOST_CLASSES = 12;
    private static final int MOST_FIELDS = 20;
    private static final int MOST_LINES = 60;
    private static final int MOST_PARAMETERS = 7;
    private static final int DEEPEST = 8;

    private final Trees trees;
    private final CompilationUnitTree unit;
    private final Deque<ExecutableElement> methods = new ArrayDeque<>();
    private final Map<String, Set<String>> calls = new TreeMap<>();
    private final Set<String> recursive = new TreeSet<>();
    private int classes;

    private LanguageTest(Trees trees, CompilationUnitTree unit) {
        this.trees = trees;
        this.unit = unit;
    }

    public static void main(String[] args) throws IOException {
        JavaCompiler compiler = ToolProvider.getSystemJavaCompiler();
        try (StandardJavaFileManager files = compiler.getStandardFileManager(null, null, null)) {
            JavacTask task = (JavacTask) compiler.getTask(null, files, null, List.of("--release", "17", "-proc:none"),
                    null, files.getJavaFileObjects(Path.of(PROGRAM)));
            CompilationUnitTree unit = task.parse().iterator().next();
            task.analyze();
            LanguageTest test = new LanguageTest(Trees.instance(task), unit);
            test.scan(unit, null);
            test.look();
        }
        Check.end();
    }

    private void look() {
        Check.due("rule 1, a package line", true, unit.getPackage() == null);
        Check.due("rule 1, classes of the file itself", 1, unit.getTypeDecls().size());
        Check.due("rule 11, classes: " + classes, true, classes <= MOST_CLASSES);
        for (String method : calls.keySet()) {
            List<String> way = deepest(method, new ArrayDeque<>());
            Check.due("rule 11, calls go too deep: " + way, true, way.size() <= DEEPEST);
        }
        Check.due("rule 8, methods that come back to themselves", "[Anew.placeFrom]", recursive.toString());
    }

    /** The longest way of calls from a method on; a method that is open already is not gone into again. */
    private List<String> deepest(String method, Deque<String> open) {
        List<String> longest = List.of();
        open.addLast(method);
        for (String called : calls.getOrDefault(method, Set.of())) {
            if (open.contains(called)) {
                recursive.add(called);
            } else {
                List<String> way = deepest(called, open);
                longest = way.size() > longest.size() ? way : longest;
            }
        }
        open.removeLast();
        List<String> all = new ArrayList<>(List.of(method));
        all.addAll(longest);
        return all;
    }

    private String at(Tree tree) {
        long place = trees.getSourcePositions().getStartPosition(unit, tree);
        return "line " + unit.getLineMap().getLineNumber(place) + ": ";
    }

    private void never(String rule, Tree tree) {
        Check.due(at(tree) + rule, "not there", "there");
    }

    private static String nameOf(ExecutableElement method) {
        return method.getEnclosingElement().getSimpleName() + "." + method.getSimpleName();
    }

    private static boolean isOwn(Element element) {
        Element outer = element;
        while (outer.getKind() != ElementKind.PACKAGE && outer.getEnclosingElement().getKind() != ElementKind.PACKAGE) {
            outer = outer.getEnclosingElement();
        }
        return outer.getSimpleName().contentEquals("ClockLodgers");
    }

    @Override
    public Void visitImport(ImportTree tree, Void none) {
        Check.due(at(tree) + "rule 4, import", true, IMPORTS.contains(tree.getQualifiedIdentifier().toString()));
        return null;
    }

    @Override
    public Void visitClass(ClassTree tree, Void none) {
        classes++;
        int fields = 0;
        for (Tree member : tree.getMembers()) {
            if (member instanceof VariableTree field) {
                boolean isStatic = field.getModifiers().getFlags().contains(Modifier.STATIC);
                fields += isStatic ? 0 : 1;
                if (isStatic) {
                    lookAtStatic(field);
                }
            }
            if (member instanceof BlockTree) {
                never("rule 5, a block that makes a class or an object", member);
            }
        }
        Check.due(at(tree) + "rule 11, fields: " + fields, true, fields <= MOST_FIELDS);
        return super.visitClass(tree, none);
    }

    private void lookAtStatic(VariableTree field) {
        ExpressionTree first = field.getInitializer();
        boolean isWritten = first != null && (!(first instanceof NewArrayTree row) || row.getInitializers() != null);
        Check.due(at(field) + "rule 5, a static field is final and written out", true,
                field.getModifiers().getFlags().contains(Modifier.FINAL) && isWritten);
    }

    @Override
    public Void visitMethod(MethodTree tree, Void none) {
        SourcePositions places = trees.getSourcePositions();
        long first = unit.getLineMap().getLineNumber(places.getStartPosition(unit, tree));
        // a constructor that nobody wrote has no end
        long last = unit.getLineMap().getLineNumber(Math.max(places.getStartPosition(unit, tree),
                places.getEndPosition(unit, tree)));
        Check.due(at(tree) + "rule 11, lines of " + tree.getName(), true, last - first < MOST_LINES);
        Check.due(at(tree) + "rule 11, parameters of " + tree.getName(), true,
                tree.getParameters().size() <= MOST_PARAMETERS);
        methods.addLast((ExecutableElement) trees.getElement(getCurrentPath()));
        calls.computeIfAbsent(nameOf(methods.getLast()), name -> new TreeSet<>());
        super.visitMethod(tree, none);
        methods.removeLast();
        return null;
    }

    private void called(ExecutableElement method) {
        if (!methods.isEmpty()) {
            calls.get(nameOf(methods.getLast())).add(nameOf(method));
        }
    }

    @Override
    public Void visitMethodInvocation(MethodInvocationTree tree, Void none) {
        ExecutableElement method = (ExecutableElement) trees.getElement(getCurrentPath());
        if (isOwn(method)) {
            called(method);
        } else if (method.getKind() != ElementKind.CONSTRUCTOR) {
            Check.due(at(tree) + "rule 4, the library: " + nameOf(method), true, LIBRARY.contains(nameOf(method)));
        }
        return super.visitMethodInvocation(tree, none);
    }

    @Override
    public Void visitNewClass(NewClassTree tree, Void none) {
        ExecutableElement made = (ExecutableElement) trees.getElement(getCurrentPath());
        boolean isThrown = getCurrentPath().getParentPath().getLeaf() instanceof ThrowTree;
        if (isOwn(made)) {
            called(made);
        }
        Check.due(at(tree) + "rule 4, new", true, isOwn(made) || isThrown);
        Check.due(at(tree) + "rule 2, a class without a name", true, tree.getClassBody() == null);
        return super.visitNewClass(tree, none);
    }

    @Override
    public Void visitThrow(ThrowTree tree, Void none) {
        boolean fine = tree.getExpression() instanceof NewClassTree made
                && THROWN.contains(made.getIdentifier().toString())
                && made.getArguments().stream().allMatch(part -> part instanceof LiteralTree);
        Check.due(at(tree) + "rule 6, throw new E(\"a written text\")", true, fine);
        Check.due(at(tree) + "rule 6, not in a constructor", true,
                !methods.isEmpty() && methods.getLast().getKind() == ElementKind.METHOD);
        return super.visitThrow(tree, none);
    }

    @Override
    public Void visitBinary(BinaryTree tree, Void none) {
        Check.due(at(tree) + "rule 10, texts are not joined by +", false, isText(tree));
        if (tree.getKind() == Tree.Kind.DIVIDE || tree.getKind() == Tree.Kind.REMAINDER) {
            String divisor = tree.getRightOperand().toString();
            Check.due(at(tree) + "rule 7, a divisor: " + divisor, true,
                    divisor.matches("[1-9][0-9]*") || DIVISORS.contains(divisor));
        }
        return super.visitBinary(tree, none);
    }

    private boolean isText(Tree tree) {
        return tree.getKind() == Tree.Kind.PLUS && trees.getTypeMirror(getCurrentPath()).getKind() == TypeKind.DECLARED;
    }

    @Override
    public Void visitPrimitiveType(PrimitiveTypeTree tree, Void none) {
        Check.due(at(tree) + "rule 3, type", true, TYPES.contains(tree.getPrimitiveTypeKind()));
        return super.visitPrimitiveType(tree, none);
    }

    @Override
    public Void visitWhileLoop(WhileLoopTree tree, Void none) {
        String condition = tree.getCondition().toString();
        Check.due(at(tree) + "rule 9, a counter against a bound", true,
                condition.startsWith("(end < size && ") || condition.startsWith("(waits > 0 && "));
        return super.visitWhileLoop(tree, none);
    }

    @Override
    public Void visitLambdaExpression(LambdaExpressionTree tree, Void none) {
        never("rule 2, a lambda", tree);
        return null;
    }

    @Override
    public Void visitMemberReference(MemberReferenceTree tree, Void none) {
        never("rule 2, a method reference", tree);
        return null;
    }

    @Override
    public Void visitTry(TryTree tree, Void none) {
        never("rule 6, try", tree);
        return null;
    }

    @Override
    public Void visitSynchronized(SynchronizedTree tree, Void none) {
        never("rule 6, synchronized", tree);
        return null;
    }

    @Override
    public Void visitAssert(AssertTree tree, Void none) {
        never("rule 6, assert", tree);
        return null;
    }
}
