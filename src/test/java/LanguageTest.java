import com.sun.source.tree.AssertTree;
import com.sun.source.tree.BinaryTree;
import com.sun.source.tree.BlockTree;
import com.sun.source.tree.ClassTree;
import com.sun.source.tree.CompilationUnitTree;
import com.sun.source.tree.DoWhileLoopTree;
import com.sun.source.tree.ExpressionTree;
import com.sun.source.tree.IdentifierTree;
import com.sun.source.tree.LambdaExpressionTree;
import com.sun.source.tree.MemberReferenceTree;
import com.sun.source.tree.MemberSelectTree;
import com.sun.source.tree.MethodInvocationTree;
import com.sun.source.tree.MethodTree;
import com.sun.source.tree.NewArrayTree;
import com.sun.source.tree.NewClassTree;
import com.sun.source.tree.SynchronizedTree;
import com.sun.source.tree.ThrowTree;
import com.sun.source.tree.Tree;
import com.sun.source.tree.TryTree;
import com.sun.source.tree.TypeCastTree;
import com.sun.source.tree.VariableTree;
import com.sun.source.tree.WhileLoopTree;
import com.sun.source.util.JavacTask;
import com.sun.source.util.SourcePositions;
import com.sun.source.util.TreeScanner;
import com.sun.source.util.Trees;
import java.io.File;
import java.util.Map;
import java.util.Set;
import java.util.TreeMap;
import java.util.TreeSet;
import javax.lang.model.element.Modifier;
import javax.tools.JavaCompiler;
import javax.tools.StandardJavaFileManager;
import javax.tools.ToolProvider;

/**
 * What of LANGUAGE.md can be seen in the source without running it. It is stricter than the rules
 * where the class needs less than they allow: what the class has no use for is refused altogether.
 */
public final class LanguageTest extends TreeScanner<Void, Void> {
    private static final String SOURCE = "src/main/java/ValueSieve.java";
    private static final Set<String> FACE = Set.of("any", "constant", "between", "pattern", "operate", "cut",
            "extend", "swap", "join", "widen", "branch", "decided", "within", "has", "least", "greatest", "unknown",
            "witness", "strays");
    private static final Set<String> LIBRARY =
            Set.of("Math.min", "Math.max", "Long.bitCount", "Long.MIN_VALUE", "Long.MAX_VALUE");
    private static final Set<String> THROWN = Set.of("IndexOutOfBoundsException", "IllegalArgumentException");
    private static final Set<String> PLAIN = Set.of("int", "long", "boolean");
    private static final int MOST_LINES = 60;
    private static final int MOST_PARAMETERS = 7;
    private static final int MOST_CLASSES = 12;
    private static final int MOST_FIELDS = 20;
    private static final int DEEPEST = 8;

    private final CompilationUnitTree unit;
    private final SourcePositions positions;
    private final Set<String> classes = new TreeSet<>();
    private final Map<String, Set<String>> callsOf = new TreeMap<>();
    private ClassTree insideClass = null;
    private MethodTree insideMethod = null;
    private boolean insideThrow = false;
    private int wrong = 0;

    private LanguageTest(CompilationUnitTree unit, SourcePositions positions) {
        this.unit = unit;
        this.positions = positions;
    }

    private long line(Tree tree) {
        return unit.getLineMap().getLineNumber(positions.getStartPosition(unit, tree));
    }

    private void rule(int number, Tree tree, boolean kept, String text) {
        if (!kept) {
            wrong++;
            System.out.println("rule " + number + ", line " + line(tree) + ": " + text);
        }
    }

    private Void refused(int number, Tree tree, String text) {
        rule(number, tree, false, text);
        return null;
    }

    private boolean makes() {
        return insideMethod == null || insideMethod.getName().contentEquals("<init>");
    }

    @Override
    public Void visitClass(ClassTree tree, Void none) {
        rule(2, tree, insideMethod == null, "a class inside a method");
        classes.add(tree.getSimpleName().toString());
        Set<Modifier> flags = tree.getModifiers().getFlags();
        rule(1, tree, insideClass == null || flags.contains(Modifier.STATIC), "a class inside that is not static");
        int fields = 0;
        for (Tree member : tree.getMembers()) {
            if (member instanceof VariableTree field) {
                boolean constant = field.getModifiers().getFlags().contains(Modifier.STATIC);
                fields += constant ? 0 : 1;
                rule(5, field, !constant || field.getModifiers().getFlags().contains(Modifier.FINAL)
                        && PLAIN.contains(field.getType().toString()), "static and no constant");
            }
            rule(5, member, !(member instanceof BlockTree), "an initialiser block");
        }
        rule(11, tree, fields <= MOST_FIELDS, "too many fields");
        ClassTree before = insideClass;
        insideClass = tree;
        super.visitClass(tree, none);
        insideClass = before;
        return null;
    }

    @Override
    public Void visitMethod(MethodTree tree, Void none) {
        String name = tree.getName().toString();
        boolean open = tree.getModifiers().getFlags().contains(Modifier.PUBLIC);
        rule(1, tree, open || !FACE.contains(name), "the name of a public method");
        rule(11, tree, tree.getParameters().size() <= MOST_PARAMETERS, "too many parameters");
        long lines = unit.getLineMap().getLineNumber(positions.getEndPosition(unit, tree)) - line(tree) + 1;
        rule(11, tree, lines <= MOST_LINES, name + " has " + lines + " lines");
        callsOf.computeIfAbsent(name, n -> new TreeSet<>());
        insideMethod = tree;
        super.visitMethod(tree, none);
        insideMethod = null;
        return null;
    }

    @Override
    public Void visitVariable(VariableTree tree, Void none) {
        // A class inside may be used before it is met, so that types are only known to be short names.
        String type = tree.getType().toString();
        rule(3, tree, PLAIN.contains(type) || Set.of("long[]", "Value", "Value[]").contains(type), "the type " + type);
        return super.visitVariable(tree, none);
    }

    @Override
    public Void visitMethodInvocation(MethodInvocationTree tree, Void none) {
        ExpressionTree called = tree.getMethodSelect();
        String name = called instanceof MemberSelectTree select ? select.getIdentifier().toString() : called.toString();
        if (!LIBRARY.contains(called.toString()) && !name.equals("super")) {
            rule(12, tree, insideMethod != null, "a call in an initialiser");
            callsOf.computeIfAbsent(insideMethod == null ? "" : insideMethod.getName().toString(), n -> new TreeSet<>())
                    .add(name);
        }
        return super.visitMethodInvocation(tree, none);
    }

    @Override
    public Void visitIdentifier(IdentifierTree tree, Void none) {
        String name = tree.getName().toString();
        boolean library = Character.isUpperCase(name.charAt(0)) && !name.equals(name.toUpperCase())
                && !Set.of("Math", "Long").contains(name) && !THROWN.contains(name);
        if (library) {
            callsOf.computeIfAbsent("", n -> new TreeSet<>()).add(name);
        }
        return super.visitIdentifier(tree, none);
    }

    @Override
    public Void visitMemberSelect(MemberSelectTree tree, Void none) {
        String owner = tree.getExpression().toString();
        rule(4, tree, !Set.of("Math", "Long").contains(owner) || LIBRARY.contains(tree.toString()), tree.toString());
        rule(4, tree, !owner.startsWith("java"), tree.toString());
        return super.visitMemberSelect(tree, none);
    }

    @Override
    public Void visitNewClass(NewClassTree tree, Void none) {
        rule(2, tree, tree.getClassBody() == null, "an anonymous class");
        rule(12, tree, insideThrow || makes(), "an object that is made by a call");
        return super.visitNewClass(tree, none);
    }

    @Override
    public Void visitNewArray(NewArrayTree tree, Void none) {
        rule(12, tree, makes(), "an array that is made by a call");
        return super.visitNewArray(tree, none);
    }

    @Override
    public Void visitThrow(ThrowTree tree, Void none) {
        boolean plain = tree.getExpression() instanceof NewClassTree made && THROWN.contains(made.getIdentifier().toString())
                && made.getArguments().size() == 1 && made.getArguments().get(0).getKind() == Tree.Kind.STRING_LITERAL;
        rule(6, tree, plain, "a throw that is not of a written text");
        rule(6, tree, !makes(), "a throw in a constructor");
        insideThrow = true;
        super.visitThrow(tree, none);
        insideThrow = false;
        return null;
    }

    @Override
    public Void visitBinary(BinaryTree tree, Void none) {
        boolean text = tree.getLeftOperand().getKind() == Tree.Kind.STRING_LITERAL
                || tree.getRightOperand().getKind() == Tree.Kind.STRING_LITERAL;
        rule(10, tree, !text, "texts joined by an operator");
        return super.visitBinary(tree, none);
    }

    @Override
    public Void visitTypeCast(TypeCastTree tree, Void none) {
        rule(7, tree, PLAIN.contains(tree.getType().toString()), "a cast of an object");
        return super.visitTypeCast(tree, none);
    }

    @Override
    public Void visitTry(TryTree tree, Void none) {
        return refused(6, tree, "a try");
    }

    @Override
    public Void visitAssert(AssertTree tree, Void none) {
        return refused(6, tree, "an assert");
    }

    @Override
    public Void visitSynchronized(SynchronizedTree tree, Void none) {
        return refused(6, tree, "synchronized");
    }

    @Override
    public Void visitLambdaExpression(LambdaExpressionTree tree, Void none) {
        return refused(2, tree, "a lambda");
    }

    @Override
    public Void visitMemberReference(MemberReferenceTree tree, Void none) {
        return refused(2, tree, "a method reference");
    }

    @Override
    public Void visitWhileLoop(WhileLoopTree tree, Void none) {
        return refused(9, tree, "a loop without a counter");
    }

    @Override
    public Void visitDoWhileLoop(DoWhileLoopTree tree, Void none) {
        return refused(9, tree, "a loop without a counter");
    }

    /** How many calls stand open at most below this one, itself counted; too many if it is among them. */
    private int depth(String name, int above) {
        if (above > DEEPEST) {
            return above;
        }
        int deepest = above;
        for (String called : callsOf.getOrDefault(name, Set.of())) {
            deepest = Math.max(deepest, depth(called, above + 1));
        }
        return deepest;
    }

    private void whole() {
        rule(4, unit, unit.getImports().isEmpty(), "an import");
        rule(1, unit, unit.getPackageName() == null && unit.getTypeDecls().size() == 1, "more than one class, or a package");
        rule(11, unit, classes.size() <= MOST_CLASSES, "too many classes");
        Set<String> names = callsOf.getOrDefault("", new TreeSet<>());
        rule(4, unit, classes.containsAll(names), "other classes than its own among " + names);
        for (Map.Entry<String, Set<String>> entry : callsOf.entrySet()) {
            if (!entry.getKey().isEmpty()) {
                rule(4, unit, callsOf.keySet().containsAll(entry.getValue()),
                        entry.getKey() + " calls what is not its own among " + entry.getValue());
            }
        }
        for (String name : FACE) {
            rule(11, unit, callsOf.containsKey(name) && depth(name, 1) <= DEEPEST, name + " goes too deep, or is not there");
        }
    }

    public static void main(String[] args) throws Exception {
        JavaCompiler compiler = ToolProvider.getSystemJavaCompiler();
        try (StandardJavaFileManager files = compiler.getStandardFileManager(null, null, null)) {
            JavacTask task = (JavacTask) compiler.getTask(null, files, null, null, null,
                    files.getJavaFileObjects(new File(args.length == 0 ? SOURCE : args[0])));
            for (CompilationUnitTree unit : task.parse()) {
                LanguageTest test = new LanguageTest(unit, Trees.instance(task).getSourcePositions());
                test.scan(unit, null);
                test.whole();
                if (test.wrong != 0) {
                    System.exit(1);
                }
            }
        }
    }
}
