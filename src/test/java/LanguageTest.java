import com.sun.source.tree.ArrayAccessTree;
import com.sun.source.tree.ArrayTypeTree;
import com.sun.source.tree.ClassTree;
import com.sun.source.tree.CompilationUnitTree;
import com.sun.source.tree.ExpressionStatementTree;
import com.sun.source.tree.ExpressionTree;
import com.sun.source.tree.ForLoopTree;
import com.sun.source.tree.IdentifierTree;
import com.sun.source.tree.MethodInvocationTree;
import com.sun.source.tree.MethodTree;
import com.sun.source.tree.NewArrayTree;
import com.sun.source.tree.PrimitiveTypeTree;
import com.sun.source.tree.StatementTree;
import com.sun.source.tree.Tree;
import com.sun.source.tree.TypeCastTree;
import com.sun.source.tree.UnaryTree;
import com.sun.source.tree.VariableTree;
import com.sun.source.util.JavacTask;
import com.sun.source.util.SourcePositions;
import com.sun.source.util.TreeScanner;
import com.sun.source.util.Trees;
import java.io.IOException;
import java.nio.file.Path;
import java.util.ArrayList;
import java.util.HashMap;
import java.util.List;
import java.util.Map;
import java.util.Set;
import java.util.TreeSet;
import javax.lang.model.element.Modifier;
import javax.lang.model.type.TypeKind;
import javax.tools.JavaCompiler;
import javax.tools.StandardJavaFileManager;
import javax.tools.ToolProvider;

/**
 * The source of StreamWire keeps to the rules of LANGUAGE.md, as far as they can be seen from its tree; the
 * public face is in FaceTest, and that no call throws (rule 7) in AnyCallTest. Runs from the project's folder.
 */
public final class LanguageTest extends TreeScanner<Void, Void> {
    private static final Path SOURCE = Path.of("src/main/java/StreamWire.java");
    private static final int LINES_MOST = 60, DEPTH_MOST = 6;
    private static final Set<Tree.Kind> RULED_OUT = Set.of(
        Tree.Kind.IMPORT, Tree.Kind.PACKAGE, Tree.Kind.INTERFACE, Tree.Kind.ENUM, Tree.Kind.RECORD, Tree.Kind.ANNOTATION,
        Tree.Kind.NEW_CLASS, Tree.Kind.STRING_LITERAL, Tree.Kind.NULL_LITERAL, Tree.Kind.FLOAT_LITERAL,
        Tree.Kind.DOUBLE_LITERAL, Tree.Kind.MEMBER_SELECT, Tree.Kind.MEMBER_REFERENCE, Tree.Kind.LAMBDA_EXPRESSION,
        Tree.Kind.THROW, Tree.Kind.TRY, Tree.Kind.SYNCHRONIZED, Tree.Kind.ASSERT, Tree.Kind.INSTANCE_OF,
        Tree.Kind.ENHANCED_FOR_LOOP, Tree.Kind.WHILE_LOOP, Tree.Kind.DO_WHILE_LOOP);

    private final Check check = new Check();
    private final Map<String, Set<String>> callsOf = new HashMap<>();
    private final Set<String> constants = new TreeSet<>();
    private final Set<String> arrays = new TreeSet<>();
    private CompilationUnitTree source;
    private SourcePositions positions;
    private MethodTree method;
    private int classes;
    private int argumentsOfCalls;

    public static void main(String[] args) throws IOException {
        LanguageTest test = new LanguageTest();
        test.read();
        test.callGraph();
        test.check.end();
    }

    private void read() throws IOException {
        JavaCompiler compiler = ToolProvider.getSystemJavaCompiler();
        try (StandardJavaFileManager files = compiler.getStandardFileManager(null, null, null)) {
            JavacTask task = (JavacTask) compiler.getTask(null, files, null, null, null, files.getJavaFileObjects(SOURCE));
            for (CompilationUnitTree unit : task.parse()) {
                source = unit;
                positions = Trees.instance(task).getSourcePositions();
                check.due("one type in the file", unit.getTypeDecls().size(), 1);
                scan(unit, null);
            }
        }
        check.due("rule 1: one class", classes, 1);
    }

    private void fault(String rule, Tree where) {
        check.due(rule + ", line " + line(positions.getStartPosition(source, where)), 1, 0);
    }

    private long line(long position) {
        return source.getLineMap().getLineNumber(position);
    }

    @Override
    public Void scan(Tree tree, Void none) {
        if (tree != null && RULED_OUT.contains(tree.getKind())) {
            fault("a thing that is ruled out, " + tree.getKind(), tree);
        }
        return super.scan(tree, none);
    }

    @Override
    public Void visitClass(ClassTree tree, Void none) {
        classes++;
        for (Tree member : tree.getMembers()) {
            if (member instanceof VariableTree) {
                field((VariableTree) member);
            } else if (!(member instanceof MethodTree)) {
                fault("rules 1, 5: neither a field nor a method", member);
            }
        }
        return super.visitClass(tree, none);
    }

    private void field(VariableTree tree) {
        Set<Modifier> modifiers = tree.getModifiers().getFlags();
        if (modifiers.contains(Modifier.STATIC)) {
            constants.add(tree.getName().toString());
            if (!modifiers.contains(Modifier.FINAL) || isArray(tree.getType()) || tree.getInitializer() == null) {
                fault("rule 5: a static field that is no constant", tree);
            }
        } else if (isArray(tree.getType())) {
            arrays.add(tree.getName().toString());
            if (!(tree.getInitializer() instanceof NewArrayTree) || !modifiers.contains(Modifier.FINAL)) {
                fault("rule 4: an array that isn't made, once, in its field's initialiser", tree);
            }
        }
    }

    private static boolean isArray(Tree type) {
        return type instanceof ArrayTypeTree;
    }

    @Override
    public Void visitVariable(VariableTree tree, Void none) {
        Tree type = isArray(tree.getType()) ? ((ArrayTypeTree) tree.getType()).getType() : tree.getType();
        if (!isNumberOrBoolean(type)) {
            fault("rule 2: the type of " + tree.getName(), tree);
        }
        return super.visitVariable(tree, none);
    }

    private static boolean isNumberOrBoolean(Tree type) {
        if (!(type instanceof PrimitiveTypeTree)) {
            return false;
        }
        TypeKind kind = ((PrimitiveTypeTree) type).getPrimitiveTypeKind();
        return kind != TypeKind.FLOAT && kind != TypeKind.DOUBLE;
    }

    @Override
    public Void visitNewArray(NewArrayTree tree, Void none) {
        if (method != null) {
            fault("rule 4: a method makes an array", tree);
        }
        if (tree.getInitializers() != null || tree.getDimensions().size() != 1) {
            fault("rule 4: an array without one length", tree);
            return super.visitNewArray(tree, none);
        }
        ExpressionTree length = tree.getDimensions().get(0);
        if (length.getKind() != Tree.Kind.INT_LITERAL && !constants.contains(length.toString())) {
            fault("rule 4: a length that is neither a literal nor a constant", tree);
        }
        return super.visitNewArray(tree, none);
    }

    @Override
    public Void visitTypeCast(TypeCastTree tree, Void none) {
        if (!(tree.getType() instanceof PrimitiveTypeTree)) {
            fault("rule 6: a cast of a reference", tree);
        }
        return super.visitTypeCast(tree, none);
    }

    /** Rule 4 of the whole array: in this class each use of one is an element of it. */
    @Override
    public Void visitArrayAccess(ArrayAccessTree tree, Void none) {
        if (!(tree.getExpression() instanceof IdentifierTree)) {
            fault("an element of something that has no name", tree);
        }
        return scan(tree.getIndex(), none);
    }

    @Override
    public Void visitIdentifier(IdentifierTree tree, Void none) {
        boolean parameter = method != null && method.getParameters().stream().anyMatch(p -> p.getName() == tree.getName());
        if (arrays.contains(tree.getName().toString()) && !parameter) {
            fault("rule 4: an array that is used but for an element of it", tree);
        }
        return super.visitIdentifier(tree, none);
    }

    @Override
    public Void visitMethod(MethodTree tree, Void none) {
        Tree type = tree.getReturnType();
        if (type != null && !isNumberOrBoolean(type)) {
            fault("rules 2, 4: what " + tree.getName() + " answers", tree);
        }
        long count = line(positions.getEndPosition(source, tree)) - line(positions.getStartPosition(source, tree)) + 1;
        if (count > LINES_MOST) {
            fault("rule 10: a method of " + count + " lines", tree);
        }
        method = tree;
        callsOf.put(tree.getName().toString(), new TreeSet<>());
        super.visitMethod(tree, none);
        method = null;
        return null;
    }

    @Override
    public Void visitMethodInvocation(MethodInvocationTree tree, Void none) {
        String name = tree.getMethodSelect().toString();
        // The parser itself puts super() into the constructor.
        if (method != null && !name.equals("super")) {
            callsOf.get(method.getName().toString()).add(name);
        }
        if (argumentsOfCalls > 0) {
            fault("rule 10: a call inside the arguments of another one", tree);
        }
        argumentsOfCalls++;
        scan(tree.getArguments(), none);
        argumentsOfCalls--;
        return null;
    }

    /** Rule 8: a counter that goes up by 1 each time, never set inside, and a bound. */
    @Override
    public Void visitForLoop(ForLoopTree tree, Void none) {
        List<String> counted = new ArrayList<>();
        for (ExpressionStatementTree update : tree.getUpdate()) {
            if (update.getExpression().getKind() == Tree.Kind.POSTFIX_INCREMENT) {
                counted.add(((UnaryTree) update.getExpression()).getExpression().toString());
            }
        }
        boolean bounded = counted.size() == 1 && tree.getCondition() != null
            && tree.getCondition().toString().matches("\\(*" + counted.get(0) + " <=? \\w+.*")
            && !tree.getCondition().toString().contains("||");
        if (!bounded || isSetInside(tree.getStatement(), counted.get(0))) {
            fault("rule 8: a loop whose end cannot be seen", tree);
        }
        return super.visitForLoop(tree, none);
    }

    private static boolean isSetInside(StatementTree body, String counter) {
        return (";" + body).matches("(?s).*\\b" + counter + " *(=[^=]|\\+\\+|--|[-+*/%&|^]=).*");
    }

    private void callGraph() {
        for (Map.Entry<String, Set<String>> of : callsOf.entrySet()) {
            for (String called : of.getValue()) {
                check.due("rule 3: " + of.getKey() + " calls a method of the class: " + called,
                    callsOf.containsKey(called) ? 1 : 0, 1);
            }
        }
        for (String name : callsOf.keySet()) {
            int deep = depth(name, 1);
            check.due("rules 8, 10: " + name + " is " + deep + " deep", deep <= DEPTH_MOST ? 1 : 0, 1);
        }
    }

    /** How many methods are under way at most; a recursion goes on until it is too deep. */
    private int depth(String name, int above) {
        int deepest = above;
        if (above <= DEPTH_MOST) {
            for (String called : callsOf.getOrDefault(name, Set.of())) {
                deepest = Math.max(deepest, depth(called, above + 1));
            }
        }
        return deepest;
    }
}
