import com.sun.source.tree.AssignmentTree;
import com.sun.source.tree.BinaryTree;
import com.sun.source.tree.ClassTree;
import com.sun.source.tree.CompilationUnitTree;
import com.sun.source.tree.ExpressionTree;
import com.sun.source.tree.ForLoopTree;
import com.sun.source.tree.MethodInvocationTree;
import com.sun.source.tree.MethodTree;
import com.sun.source.tree.NewArrayTree;
import com.sun.source.tree.Tree;
import com.sun.source.tree.UnaryTree;
import com.sun.source.tree.VariableTree;
import com.sun.source.util.JavacTask;
import com.sun.source.util.TreeScanner;
import com.sun.source.util.Trees;
import java.io.File;
import java.util.HashMap;
import java.util.HashSet;
import java.util.List;
import java.util.Map;
import java.util.Set;
import java.util.TreeSet;
import javax.lang.model.element.Modifier;
import javax.tools.JavaCompiler;
import javax.tools.StandardJavaFileManager;
import javax.tools.ToolProvider;

/**
 * LANGUAGE.md, as far as the source alone shows that it is kept. Members that can be seen are PublicFaceTest's part.
 * In places this test allows less than the rules do, where the class needs no more: a plain list of what it is
 * written in is easier to trust than a list of all that is forbidden.
 */
public final class LanguageTest extends TreeScanner<Void, Void> {
    private static final String FILE = "src/main/java/TraceFrontEnd.java";
    private static final int PARAMETERS = 7;
    private static final int LINES = 60;
    private static final int DEPTH = 6;
    private static final int FIELDS = 40;

    /** By name, since some Java releases call the same part of a switch otherwise. */
    private static final Set<String> ALLOWED = Set.of(
        "COMPILATION_UNIT", "CLASS", "METHOD", "VARIABLE", "MODIFIERS", "PRIMITIVE_TYPE", "ARRAY_TYPE", "NEW_ARRAY",
        "BLOCK", "EXPRESSION_STATEMENT", "IF", "FOR_LOOP", "SWITCH", "CASE", "CONSTANT_CASE_LABEL",
        "DEFAULT_CASE_LABEL", "BREAK", "RETURN", "ASSIGNMENT", "METHOD_INVOCATION", "ARRAY_ACCESS", "IDENTIFIER",
        "PARENTHESIZED", "INT_LITERAL", "BOOLEAN_LITERAL", "CONDITIONAL_EXPRESSION", "CONDITIONAL_AND",
        "CONDITIONAL_OR", "LOGICAL_COMPLEMENT", "UNARY_MINUS", "POSTFIX_INCREMENT", "PLUS", "MINUS", "XOR", "AND",
        "LESS_THAN", "LESS_THAN_EQUAL", "GREATER_THAN", "GREATER_THAN_EQUAL", "EQUAL_TO", "NOT_EQUAL_TO");

    private static final Set<String> TYPES = Set.of("int", "boolean", "int[]", "void");

    private final CompilationUnitTree unit;
    private final Trees trees;
    private final Set<String> constants = new HashSet<>();
    private final Set<Tree> arraysOfFields = new HashSet<>();
    private final Map<String, Set<String>> callsOf = new HashMap<>();
    private String method = "";
    private int fields = 0;

    private LanguageTest(CompilationUnitTree unit, Trees trees) {
        this.unit = unit;
        this.trees = trees;
    }

    public static void main(String[] args) throws Exception {
        JavaCompiler compiler = ToolProvider.getSystemJavaCompiler();
        try (StandardJavaFileManager files = compiler.getStandardFileManager(null, null, null)) {
            var sources = files.getJavaFileObjects(new File(FILE));
            JavacTask task = (JavacTask) compiler.getTask(null, files, null, List.of("-proc:none"), null, sources);
            for (CompilationUnitTree unit : task.parse()) {
                new LanguageTest(unit, Trees.instance(task)).check();
            }
        }
        Due.finish();
    }

    private void check() {
        due("rule 1", "has a package line", unit, unit.getPackage() == null);
        due("rule 1", "has more than one class", unit, unit.getTypeDecls().size() == 1);
        due("rule 3", "imports", unit, unit.getImports().isEmpty());
        for (Tree declared : unit.getTypeDecls()) {
            collectMembers((ClassTree) declared);
        }
        scan(unit, null);
        due("rule 10", "has more than " + FIELDS + " fields", unit, fields <= FIELDS);
        for (Map.Entry<String, Set<String>> calls : callsOf.entrySet()) {
            for (String called : calls.getValue()) {
                due("rule 3", calls.getKey() + " calls " + called, unit, callsOf.containsKey(called));
            }
            due("rule 8", calls.getKey() + " calls itself or too deep", unit, depth(calls.getKey(), DEPTH) <= DEPTH);
        }
    }

    private void due(String rule, String what, Tree at, boolean kept) {
        long line = unit.getLineMap().getLineNumber(start(at));
        Due.due(rule + ", line " + line + ": " + what, kept, true);
    }

    private long start(Tree tree) {
        return trees.getSourcePositions().getStartPosition(unit, tree);
    }

    private long end(Tree tree) {
        return trees.getSourcePositions().getEndPosition(unit, tree);
    }

    private void collectMembers(ClassTree declared) {
        for (Tree member : declared.getMembers()) {
            if (member instanceof MethodTree) {
                String name = ((MethodTree) member).getName().toString();
                due("rule 1", "two methods " + name, member, callsOf.put(name, new TreeSet<>()) == null);
            } else if (member instanceof VariableTree) {
                collectField((VariableTree) member);
            } else {
                due("rule 1", "neither field nor method", member, false);
            }
        }
    }

    private void collectField(VariableTree field) {
        Set<Modifier> modifiers = field.getModifiers().getFlags();
        Tree first = field.getInitializer();
        if (modifiers.contains(Modifier.STATIC)) {
            boolean number = first != null && Set.of("INT_LITERAL", "UNARY_MINUS").contains(first.getKind().name());
            boolean constant = modifiers.contains(Modifier.FINAL) && field.getType().toString().equals("int") && number;
            due("rule 5", field.getName() + " is no constant", field, constant);
            constants.add(field.getName().toString());
            return;
        }
        fields++;
        if (field.getType().getKind() == Tree.Kind.ARRAY_TYPE) {
            due("rule 4", field.getName() + " can be assigned to", field, modifiers.contains(Modifier.FINAL));
            arraysOfFields.add(first);
        }
    }

    /** How many methods stand above each other at most, not counted further than one past the limit. */
    private int depth(String name, int limit) {
        int deepest = 0;
        if (limit > 0) {
            for (String called : callsOf.getOrDefault(name, Set.of())) {
                deepest = Math.max(deepest, depth(called, limit - 1));
            }
            return deepest + 1;
        }
        return 1;
    }

    @Override
    public Void scan(Tree tree, Void p) {
        if (tree != null) {
            due("rules 2 to 9", tree.getKind() + " is not allowed", tree, ALLOWED.contains(tree.getKind().name()));
        }
        return super.scan(tree, p);
    }

    @Override
    public Void visitMethod(MethodTree tree, Void p) {
        method = tree.getName().toString();
        due("rule 10", method + " takes too many parameters", tree, tree.getParameters().size() <= PARAMETERS);
        long first = unit.getLineMap().getLineNumber(start(tree));
        long last = unit.getLineMap().getLineNumber(end(tree));
        due("rule 10", method + " is too long", tree, last - first < LINES);
        Tree answer = tree.getReturnType();
        boolean plain = answer == null || TYPES.contains(answer.toString()) && !answer.toString().equals("int[]");
        due("rule 4", method + " answers something else than a number", tree, plain);
        return super.visitMethod(tree, p);
    }

    @Override
    public Void visitVariable(VariableTree tree, Void p) {
        due("rule 2", "the type of " + tree.getName(), tree, TYPES.contains(tree.getType().toString()));
        return super.visitVariable(tree, p);
    }

    @Override
    public Void visitNewArray(NewArrayTree tree, Void p) {
        boolean once = arraysOfFields.contains(tree) && tree.getInitializers() == null;
        boolean sized = tree.getDimensions().size() == 1 && constants.contains(tree.getDimensions().get(0).toString());
        due("rule 4", tree + " is not made once, with a constant length", tree, once && sized);
        return super.visitNewArray(tree, p);
    }

    @Override
    public Void visitMethodInvocation(MethodInvocationTree tree, Void p) {
        callsOf.get(method).add(tree.getMethodSelect().toString());
        for (ExpressionTree argument : tree.getArguments()) {
            due("rule 10", "a call inside the arguments of " + tree, tree, !holdsCall(argument));
        }
        return super.visitMethodInvocation(tree, p);
    }

    private static boolean holdsCall(Tree tree) {
        boolean[] found = {false};
        new TreeScanner<Void, Void>() {
            @Override
            public Void visitMethodInvocation(MethodInvocationTree call, Void p) {
                found[0] = true;
                return null;
            }
        }.scan(tree, null);
        return found[0];
    }

    @Override
    public Void visitForLoop(ForLoopTree tree, Void p) {
        boolean plain = tree.getInitializer().size() == 1 && tree.getInitializer().get(0) instanceof VariableTree
            && tree.getUpdate().size() == 1 && tree.getCondition() != null;
        due("rule 8", "a loop without one counter", tree, plain);
        if (plain) {
            String counter = ((VariableTree) tree.getInitializer().get(0)).getName().toString();
            String step = tree.getUpdate().get(0).getExpression().toString();
            due("rule 8", "the counter " + counter + " does not count up", tree, step.equals(counter + "++"));
            due("rule 8", "no bound for " + counter, tree, isBounded(tree.getCondition(), counter));
            due("rule 8", counter + " is changed in the loop", tree, !changes(tree.getStatement(), counter));
        }
        return super.visitForLoop(tree, p);
    }

    /** The bound comes first in the condition, and nothing that follows it by && can make the loop longer. */
    private static boolean isBounded(Tree condition, String counter) {
        Tree at = condition;
        while (at.getKind() == Tree.Kind.CONDITIONAL_AND) {
            at = ((BinaryTree) at).getLeftOperand();
        }
        return at.getKind() == Tree.Kind.LESS_THAN && ((BinaryTree) at).getLeftOperand().toString().equals(counter);
    }

    private static boolean changes(Tree body, String counter) {
        boolean[] found = {false};
        new TreeScanner<Void, Void>() {
            @Override
            public Void visitAssignment(AssignmentTree tree, Void p) {
                found[0] |= tree.getVariable().toString().equals(counter);
                return super.visitAssignment(tree, p);
            }

            @Override
            public Void visitUnary(UnaryTree tree, Void p) {
                boolean steps = tree.getKind() == Tree.Kind.POSTFIX_INCREMENT;
                found[0] |= steps && tree.getExpression().toString().equals(counter);
                return super.visitUnary(tree, p);
            }
        }.scan(body, null);
        return found[0];
    }
}
