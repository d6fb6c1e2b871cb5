import com.sun.source.tree.ArrayTypeTree;
import com.sun.source.tree.ClassTree;
import com.sun.source.tree.CompilationUnitTree;
import com.sun.source.tree.ForLoopTree;
import com.sun.source.tree.IdentifierTree;
import com.sun.source.tree.LiteralTree;
import com.sun.source.tree.MemberSelectTree;
import com.sun.source.tree.MethodInvocationTree;
import com.sun.source.tree.MethodTree;
import com.sun.source.tree.NewArrayTree;
import com.sun.source.tree.PrimitiveTypeTree;
import com.sun.source.tree.Tree;
import com.sun.source.tree.VariableTree;
import com.sun.source.util.JavacTask;
import com.sun.source.util.SourcePositions;
import com.sun.source.util.TreeScanner;
import com.sun.source.util.Trees;
import java.io.File;
import java.io.IOException;
import java.util.EnumSet;
import java.util.HashMap;
import java.util.HashSet;
import java.util.List;
import java.util.Map;
import java.util.Set;
import java.util.TreeSet;
import javax.lang.model.element.Modifier;
import javax.lang.model.type.TypeKind;
import javax.tools.JavaCompiler;
import javax.tools.StandardJavaFileManager;
import javax.tools.ToolProvider;

/** The rules of LANGUAGE.md that can be seen in the program's text. Run from the project's root. */
public final class LanguageTest {
    private static final File PROGRAM = new File("src/main/java/PppNegotiator.java");
    private static final int MOST_PARAMETERS = 7;
    private static final int MOST_LINES = 60;
    private static final int MOST_DEEP = 6;
    private static final int MOST_FIELDS = 40;

    private static final Set<Tree.Kind> FORBIDDEN = EnumSet.of(
        Tree.Kind.PACKAGE, Tree.Kind.IMPORT, Tree.Kind.INTERFACE, Tree.Kind.ENUM, Tree.Kind.RECORD,
        Tree.Kind.ANNOTATION_TYPE, Tree.Kind.ANNOTATION, Tree.Kind.NEW_CLASS, Tree.Kind.THROW, Tree.Kind.TRY,
        Tree.Kind.CATCH, Tree.Kind.SYNCHRONIZED, Tree.Kind.ASSERT, Tree.Kind.INSTANCE_OF,
        Tree.Kind.LAMBDA_EXPRESSION, Tree.Kind.MEMBER_REFERENCE, Tree.Kind.SWITCH_EXPRESSION,
        Tree.Kind.ENHANCED_FOR_LOOP, Tree.Kind.WHILE_LOOP, Tree.Kind.DO_WHILE_LOOP,
        Tree.Kind.PARAMETERIZED_TYPE, Tree.Kind.STRING_LITERAL,
        Tree.Kind.FLOAT_LITERAL, Tree.Kind.DOUBLE_LITERAL, Tree.Kind.NULL_LITERAL);

    private static final Map<String, Set<String>> calls = new HashMap<>();
    private static final Set<String> ownNames = new HashSet<>();
    private static final Set<String> ownMethods = new HashSet<>();

    private static void rule(int number, String what, boolean kept) {
        Check.due("rule " + number + ": " + what, kept, true);
    }

    private static final class Looker extends TreeScanner<Void, Void> {
        private String method = "";
        private boolean inField = false;
        private int argumentsDeep = 0;
        private List<? extends VariableTree> parameters = List.of();

        @Override
        public Void scan(Tree tree, Void nothing) {
            if (tree != null && FORBIDDEN.contains(tree.getKind())) {
                rule(6, tree.getKind() + ": " + tree, false);
            }
            return super.scan(tree, nothing);
        }

        @Override
        public Void visitMethod(MethodTree tree, Void nothing) {
            method = tree.getName().toString();
            parameters = tree.getParameters();
            calls.putIfAbsent(method, new TreeSet<>());
            rule(10, method + " takes few parameters", tree.getParameters().size() <= MOST_PARAMETERS);
            rule(4, method + " answers no array", !(tree.getReturnType() instanceof ArrayTypeTree));
            super.visitMethod(tree, nothing);
            method = "";
            return null;
        }

        @Override
        public Void visitVariable(VariableTree tree, Void nothing) {
            boolean field = method.isEmpty();
            Set<Modifier> flags = tree.getModifiers().getFlags();
            if (field && flags.contains(Modifier.STATIC)) {
                String type = tree.getType().toString();
                rule(5, tree.getName() + " is a constant", flags.contains(Modifier.FINAL)
                    && tree.getInitializer() != null && (type.equals("int") || type.equals("long")));
            }
            if (tree.getType() instanceof ArrayTypeTree) {
                rule(4, "the array " + tree.getName() + " is a field or is handed over, and stays the same",
                    field ? flags.contains(Modifier.FINAL) : parameters.contains(tree));
            }
            inField = field;
            super.visitVariable(tree, nothing);
            inField = false;
            return null;
        }

        @Override
        public Void visitNewArray(NewArrayTree tree, Void nothing) {
            rule(4, tree + " is in a field's initialiser", inField);
            rule(4, tree + " has one length", tree.getDimensions().size() == 1
                && tree.getInitializers() == null);
            return super.visitNewArray(tree, nothing);
        }

        @Override
        public Void visitForLoop(ForLoopTree tree, Void nothing) {
            rule(8, "a loop with a bound: for (" + tree.getInitializer() + tree.getCondition() + ")",
                tree.getInitializer().size() == 1 && tree.getUpdate().size() == 1
                && tree.getCondition() != null && tree.getCondition().getKind() == Tree.Kind.LESS_THAN);
            return super.visitForLoop(tree, nothing);
        }

        @Override
        public Void visitArrayType(ArrayTypeTree tree, Void nothing) {
            rule(2, tree + " has one dimension", !(tree.getType() instanceof ArrayTypeTree));
            return super.visitArrayType(tree, nothing);
        }

        @Override
        public Void visitPrimitiveType(PrimitiveTypeTree tree, Void nothing) {
            rule(2, tree + " is no type of fractions", tree.getPrimitiveTypeKind() != TypeKind.FLOAT
                && tree.getPrimitiveTypeKind() != TypeKind.DOUBLE);
            return super.visitPrimitiveType(tree, nothing);
        }

        @Override
        public Void visitMethodInvocation(MethodInvocationTree tree, Void nothing) {
            String called = tree.getMethodSelect().toString();
            if (called.equals("super")) {
                return null; // the compiler's own call at the head of the constructor
            }
            rule(3, "the call of " + called, ownMethods.contains(called));
            rule(10, tree + " is no argument of a call", argumentsDeep == 0);
            calls.computeIfAbsent(method, m -> new TreeSet<>()).add(called);
            argumentsDeep++;
            scan(tree.getArguments(), nothing);
            argumentsDeep--;
            return null;
        }

        @Override
        public Void visitMemberSelect(MemberSelectTree tree, Void nothing) {
            rule(3, tree + " is of the object itself", tree.getExpression().toString().equals("this"));
            return super.visitMemberSelect(tree, nothing);
        }

        @Override
        public Void visitIdentifier(IdentifierTree tree, Void nothing) {
            rule(3, tree + " is the program's own name", ownNames.contains(tree.toString()));
            return super.visitIdentifier(tree, nothing);
        }

        @Override
        public Void visitLiteral(LiteralTree tree, Void nothing) {
            Object value = tree.getValue();
            rule(2, tree + " is a whole number or a boolean", value instanceof Integer
                || value instanceof Long || value instanceof Boolean || value instanceof Character);
            return super.visitLiteral(tree, nothing);
        }
    }

    /** Names that the program gives to its methods, fields, parameters and local variables. */
    private static final class Names extends TreeScanner<Void, Void> {
        @Override
        public Void visitMethod(MethodTree tree, Void nothing) {
            ownMethods.add(tree.getName().toString());
            return super.visitMethod(tree, nothing);
        }

        @Override
        public Void visitVariable(VariableTree tree, Void nothing) {
            ownNames.add(tree.getName().toString());
            return super.visitVariable(tree, nothing);
        }
    }

    /** Calls below the method, itself counted; a way that comes back to where it was ends the count. */
    private static int depth(String method, Set<String> above) {
        if (!above.add(method)) {
            rule(8, "no recursion through " + method, false);
            return 0;
        }
        int deepest = 0;
        for (String called : calls.getOrDefault(method, Set.of())) {
            deepest = Math.max(deepest, depth(called, above));
        }
        above.remove(method);
        return deepest + 1;
    }

    private static void lengths(CompilationUnitTree unit, ClassTree program, SourcePositions positions) {
        for (Tree member : program.getMembers()) {
            if (member instanceof MethodTree method) {
                long from = unit.getLineMap().getLineNumber(positions.getStartPosition(unit, method));
                long to = unit.getLineMap().getLineNumber(positions.getEndPosition(unit, method));
                rule(10, method.getName() + " is short", to - from < MOST_LINES);
            }
        }
    }

    public static void main(String[] args) throws IOException {
        JavaCompiler compiler = ToolProvider.getSystemJavaCompiler();
        try (StandardJavaFileManager files = compiler.getStandardFileManager(null, null, null)) {
            JavacTask task = (JavacTask) compiler.getTask(
                null, files, null, null, null, files.getJavaFileObjects(PROGRAM));
            CompilationUnitTree unit = task.parse().iterator().next();
            List<? extends Tree> types = unit.getTypeDecls();
            rule(1, "one class", types.size() == 1);
            ClassTree program = (ClassTree) types.get(0);
            rule(1, "nothing imported", unit.getImports().isEmpty() && unit.getPackageName() == null);
            ownNames.add("this");
            new Names().scan(unit, null);
            new Looker().scan(unit, null);
            int fields = 0;
            for (Tree member : program.getMembers()) {
                boolean field = member instanceof VariableTree;
                rule(1, "only fields and methods inside", field || member instanceof MethodTree);
                if (field && !((VariableTree) member).getModifiers().getFlags().contains(Modifier.STATIC)) {
                    fields++;
                }
            }
            rule(10, "few fields", fields <= MOST_FIELDS);
            lengths(unit, program, Trees.instance(task).getSourcePositions());
            for (String method : new TreeSet<>(calls.keySet())) {
                rule(10, method + " calls at most six deep", depth(method, new HashSet<>()) <= MOST_DEEP);
            }
        }
        Check.end();
    }
}
