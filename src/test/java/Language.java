import com.sun.source.tree.ArrayAccessTree;
import com.sun.source.tree.AssignmentTree;
import com.sun.source.tree.BinaryTree;
import com.sun.source.tree.ClassTree;
import com.sun.source.tree.CompilationUnitTree;
import com.sun.source.tree.CompoundAssignmentTree;
import com.sun.source.tree.ConditionalExpressionTree;
import com.sun.source.tree.ExpressionTree;
import com.sun.source.tree.ForLoopTree;
import com.sun.source.tree.IfTree;
import com.sun.source.tree.MethodInvocationTree;
import com.sun.source.tree.MethodTree;
import com.sun.source.tree.NewArrayTree;
import com.sun.source.tree.NewClassTree;
import com.sun.source.tree.Tree;
import com.sun.source.tree.TypeCastTree;
import com.sun.source.tree.UnaryTree;
import com.sun.source.tree.VariableTree;
import com.sun.source.util.JavacTask;
import com.sun.source.util.TreePath;
import com.sun.source.util.TreePathScanner;
import com.sun.source.util.Trees;
import java.io.IOException;
import java.net.URI;
import java.util.ArrayList;
import java.util.EnumSet;
import java.util.List;
import java.util.Map;
import java.util.Set;
import java.util.TreeMap;
import java.util.TreeSet;
import javax.lang.model.element.Element;
import javax.lang.model.element.ElementKind;
import javax.lang.model.element.ExecutableElement;
import javax.lang.model.element.Modifier;
import javax.lang.model.element.TypeElement;
import javax.lang.model.element.VariableElement;
import javax.lang.model.type.ArrayType;
import javax.lang.model.type.DeclaredType;
import javax.lang.model.type.TypeKind;
import javax.lang.model.type.TypeMirror;
import javax.tools.Diagnostic;
import javax.tools.DiagnosticCollector;
import javax.tools.JavaCompiler;
import javax.tools.JavaFileObject;
import javax.tools.SimpleJavaFileObject;
import javax.tools.ToolProvider;

/**
 * What a source breaks of LANGUAGE.md, by the compiler's own tree of it. It is narrower than the rules where the class
 * needs less than they leave: no loop but for, no exception, no generic class, no object made outside a field's start.
 */
final class Language extends TreePathScanner<Void, Void> {
    private static final int MOST_PARAMETERS = 7, MOST_LINES = 60, MOST_DEEP = 8, MOST_CLASSES = 12, MOST_FIELDS = 20;
    private static final Set<Tree.Kind> KINDS = EnumSet.of(Tree.Kind.COMPILATION_UNIT, Tree.Kind.IMPORT, Tree.Kind.CLASS,
        Tree.Kind.METHOD, Tree.Kind.VARIABLE, Tree.Kind.MODIFIERS, Tree.Kind.PRIMITIVE_TYPE, Tree.Kind.ARRAY_TYPE,
        Tree.Kind.BLOCK, Tree.Kind.IF, Tree.Kind.FOR_LOOP, Tree.Kind.SWITCH, Tree.Kind.CASE, Tree.Kind.BREAK,
        Tree.Kind.CONTINUE, Tree.Kind.RETURN, Tree.Kind.EXPRESSION_STATEMENT, Tree.Kind.METHOD_INVOCATION,
        Tree.Kind.NEW_ARRAY, Tree.Kind.NEW_CLASS, Tree.Kind.ARRAY_ACCESS, Tree.Kind.MEMBER_SELECT, Tree.Kind.IDENTIFIER,
        Tree.Kind.PARENTHESIZED, Tree.Kind.TYPE_CAST, Tree.Kind.CONDITIONAL_EXPRESSION, Tree.Kind.ASSIGNMENT,
        Tree.Kind.INT_LITERAL, Tree.Kind.LONG_LITERAL, Tree.Kind.CHAR_LITERAL, Tree.Kind.STRING_LITERAL,
        Tree.Kind.BOOLEAN_LITERAL);
    private static final Set<TypeKind> NUMBERS = EnumSet.of(TypeKind.INT, TypeKind.LONG, TypeKind.SHORT, TypeKind.BYTE,
        TypeKind.CHAR, TypeKind.BOOLEAN);
    private static final Set<String> LIBRARY = Set.of("String.length", "String.charAt", "Math.max", "Math.min", "Math.abs",
        "Integer.bitCount", "Arrays.fill", "System.arraycopy", "Object.<init>");

    private final List<String> breaches = new ArrayList<>();
    private final Map<String, Set<String>> calls = new TreeMap<>();
    private final Trees trees;
    private final CompilationUnitTree unit;
    private int classes;

    private Language(JavacTask task, CompilationUnitTree unit) {
        this.trees = Trees.instance(task);
        this.unit = unit;
    }

    /** Each as "rule n: what is broken there". */
    static List<String> breachesOf(String source) {
        JavaCompiler javac = ToolProvider.getSystemJavaCompiler();
        JavaFileObject file = new SimpleJavaFileObject(URI.create("string:///UnlikeGate.java"), JavaFileObject.Kind.SOURCE) {
            @Override
            public CharSequence getCharContent(boolean lenient) {
                return source;
            }
        };
        List<String> options = List.of("-proc:none", "-Xlint:none");
        DiagnosticCollector<JavaFileObject> faults = new DiagnosticCollector<>();
        JavacTask task = (JavacTask) javac.getTask(null, null, faults, options, null, List.of(file));
        try {
            CompilationUnitTree unit = task.parse().iterator().next();
            task.analyze();
            if (faults.getDiagnostics().stream().anyMatch(fault -> fault.getKind() == Diagnostic.Kind.ERROR)) {
                throw new IllegalStateException("does not compile: " + faults.getDiagnostics());
            }
            Language language = new Language(task, unit);
            language.scan(unit, null);
            language.whole(source);
            return language.breaches;
        } catch (IOException e) {
            throw new IllegalStateException(e);
        }
    }

    private void need(int rule, boolean kept, Object where) {
        if (!kept) {
            breaches.add("rule " + rule + ": " + where.toString().strip());
        }
    }

    private void whole(String source) {
        need(1, unit.getPackageName() == null, "a package line");
        need(11, classes <= MOST_CLASSES, classes + " classes");
        need(4, source.chars().allMatch(sign -> sign >= 1 && sign <= 127), "a sign beyond 127");
        for (String method : calls.keySet()) {
            int deep = deepest(method, new ArrayList<>());
            need(11, deep <= MOST_DEEP, method + " goes " + deep + " deep");
        }
    }

    private int deepest(String method, List<String> open) {
        if (open.contains(method)) {
            need(8, false, "recursion by " + method);
            return 0;
        }
        open.add(method);
        int most = 0;
        for (String called : calls.getOrDefault(method, Set.of())) {
            most = Math.max(most, deepest(called, open));
        }
        open.remove(method);
        return most + 1;
    }

    // ---- what stands in it

    @Override
    public Void scan(Tree tree, Void nothing) {
        if (tree != null) {
            boolean sign = tree instanceof BinaryTree || tree instanceof UnaryTree || tree instanceof CompoundAssignmentTree;
            need(10, sign || KINDS.contains(tree.getKind()), tree.getKind() + " in " + tree);
        }
        return super.scan(tree, nothing);
    }

    @Override
    public Void visitClass(ClassTree tree, Void nothing) {
        classes++;
        Set<Modifier> words = tree.getModifiers().getFlags();
        boolean outer = getCurrentPath().getParentPath().getLeaf() == unit;
        need(1, words.contains(Modifier.FINAL), tree.getSimpleName() + " is not final");
        need(1, words.contains(Modifier.PUBLIC) == outer, tree.getSimpleName() + " is public or not");
        need(2, outer || words.contains(Modifier.STATIC), tree.getSimpleName() + " is not static");
        need(3, tree.getTypeParameters().isEmpty() && tree.getExtendsClause() == null, tree.getSimpleName() + " is no plain class");
        int fields = 0;
        for (Tree member : tree.getMembers()) {
            need(5, member.getKind() != Tree.Kind.BLOCK, "a block of a start in " + tree.getSimpleName());
            if (member instanceof VariableTree field && !field.getModifiers().getFlags().contains(Modifier.STATIC)) {
                fields++;
            }
        }
        need(11, fields <= MOST_FIELDS, fields + " fields in " + tree.getSimpleName());
        return super.visitClass(tree, nothing);
    }

    @Override
    public Void visitVariable(VariableTree tree, Void nothing) {
        Element element = trees.getElement(getCurrentPath());
        need(3, isFine(element.asType()), tree);
        if (element.getKind() == ElementKind.FIELD) {
            Set<Modifier> words = tree.getModifiers().getFlags();
            boolean ofFace = words.contains(Modifier.PUBLIC) && getCurrentPath().getParentPath().getParentPath().getLeaf() == unit;
            need(1, words.contains(Modifier.PRIVATE) || ofFace && words.contains(Modifier.STATIC), tree);
            if (words.contains(Modifier.STATIC)) {
                need(5, words.contains(Modifier.FINAL) && isConstant(element, tree), tree);
            }
        }
        return super.visitVariable(tree, nothing);
    }

    private boolean isConstant(Element element, VariableTree tree) {
        boolean writtenOut = tree.getInitializer() instanceof NewArrayTree array && array.getInitializers() != null;
        return writtenOut || ((VariableElement) element).getConstantValue() != null;
    }

    private boolean isFine(TypeMirror type) {
        if (type instanceof ArrayType array) {
            return NUMBERS.contains(array.getComponentType().getKind());
        }
        if (type instanceof DeclaredType declared) {
            return isOwn(declared.asElement()) || declared.toString().equals("java.lang.String");
        }
        return NUMBERS.contains(type.getKind()) || type.getKind() == TypeKind.VOID;
    }

    private static boolean isOwn(Element element) {
        Element outermost = element;
        while (outermost.getEnclosingElement().getKind() != ElementKind.PACKAGE) {
            outermost = outermost.getEnclosingElement();
        }
        return outermost.getSimpleName().contentEquals("UnlikeGate");
    }

    @Override
    public Void visitMethod(MethodTree tree, Void nothing) {
        ExecutableElement element = (ExecutableElement) trees.getElement(getCurrentPath());
        need(11, tree.getParameters().size() <= MOST_PARAMETERS, tree.getParameters().size() + " parameters of " + tree.getName());
        need(11, lines(tree) <= MOST_LINES, lines(tree) + " lines of " + tree.getName());
        need(3, isFine(element.getReturnType()), tree.getName());
        need(6, tree.getThrows().isEmpty(), tree.getName());
        need(1, !tree.getModifiers().getFlags().contains(Modifier.PROTECTED), tree.getName());
        boolean named = Set.of("equals", "hashCode", "toString", "finalize", "clone").contains(tree.getName().toString());
        need(6, !named, "a method " + tree.getName());
        calls.putIfAbsent(nameOf(element), new TreeSet<>());
        return super.visitMethod(tree, nothing);
    }

    private long lines(MethodTree tree) {
        long from = trees.getSourcePositions().getStartPosition(unit, tree);
        long to = trees.getSourcePositions().getEndPosition(unit, tree);
        return unit.getLineMap().getLineNumber(to) - unit.getLineMap().getLineNumber(from) + 1;
    }

    private static String nameOf(ExecutableElement element) {
        TypeElement owner = (TypeElement) element.getEnclosingElement();
        return owner.getSimpleName() + "." + element.getSimpleName();
    }

    // ---- what it does

    @Override
    public Void visitMethodInvocation(MethodInvocationTree tree, Void nothing) {
        ExecutableElement called = (ExecutableElement) trees.getElement(getCurrentPath());
        if (isOwn(called)) {
            noteCall(nameOf(called));
        } else {
            need(4, LIBRARY.contains(nameOf(called)), tree);
        }
        return super.visitMethodInvocation(tree, nothing);
    }

    private void noteCall(String called) {
        MethodTree inside = (MethodTree) above(Tree.Kind.METHOD);
        if (inside != null) {
            Element element = trees.getElement(trees.getPath(unit, inside));
            calls.computeIfAbsent(nameOf((ExecutableElement) element), name -> new TreeSet<>()).add(called);
        }
    }

    private Tree above(Tree.Kind kind) {
        for (TreePath path = getCurrentPath(); path != null; path = path.getParentPath()) {
            if (path.getLeaf().getKind() == kind) {
                return path.getLeaf();
            }
        }
        return null;
    }

    @Override
    public Void visitNewClass(NewClassTree tree, Void nothing) {
        need(12, above(Tree.Kind.METHOD) == null, tree);
        need(4, isOwn(trees.getElement(getCurrentPath())), tree);
        need(2, tree.getClassBody() == null, tree);
        return super.visitNewClass(tree, nothing);
    }

    @Override
    public Void visitNewArray(NewArrayTree tree, Void nothing) {
        need(12, above(Tree.Kind.METHOD) == null, tree);
        need(3, tree.getDimensions().size() <= 1, tree);
        return super.visitNewArray(tree, nothing);
    }

    @Override
    public Void visitTypeCast(TypeCastTree tree, Void nothing) {
        need(6, tree.getType().getKind() == Tree.Kind.PRIMITIVE_TYPE, tree);
        return super.visitTypeCast(tree, nothing);
    }

    @Override
    public Void visitBinary(BinaryTree tree, Void nothing) {
        boolean texts = isText(tree.getLeftOperand()) || isText(tree.getRightOperand());
        need(10, !texts, tree);
        if (tree.getKind() == Tree.Kind.DIVIDE || tree.getKind() == Tree.Kind.REMAINDER) {
            need(7, isLookedAt(tree.getRightOperand()), tree);
        }
        return super.visitBinary(tree, nothing);
    }

    private boolean isText(ExpressionTree tree) {
        TypeMirror type = trees.getTypeMirror(new TreePath(getCurrentPath(), tree));
        return type != null && type.toString().equals("java.lang.String");
    }

    /** A written number but 0, or what the condition of an if or ?: round it names. */
    private boolean isLookedAt(ExpressionTree divisor) {
        if (divisor.getKind() == Tree.Kind.INT_LITERAL) {
            return !divisor.toString().equals("0");
        }
        for (TreePath path = getCurrentPath(); path != null; path = path.getParentPath()) {
            Tree leaf = path.getLeaf();
            Tree condition = leaf instanceof IfTree choice ? choice.getCondition()
                : leaf instanceof ConditionalExpressionTree choice ? choice.getCondition() : null;
            if (condition != null && names(condition, divisor.toString())) {
                return true;
            }
        }
        return false;
    }

    private static boolean names(Tree tree, String name) {
        return tree.toString().matches("(?s).*\\b" + name + "\\b.*");
    }

    @Override
    public Void visitCompoundAssignment(CompoundAssignmentTree tree, Void nothing) {
        need(10, !isText(tree.getVariable()), tree);
        if (tree.getKind() == Tree.Kind.DIVIDE_ASSIGNMENT || tree.getKind() == Tree.Kind.REMAINDER_ASSIGNMENT) {
            need(7, isLookedAt(tree.getExpression()), tree);
        }
        changed(tree.getVariable());
        return super.visitCompoundAssignment(tree, nothing);
    }

    @Override
    public Void visitAssignment(AssignmentTree tree, Void nothing) {
        changed(tree.getVariable());
        return super.visitAssignment(tree, nothing);
    }

    /** Arrays that are static stay as they are written out, and a loop's counter is the loop's own. */
    private void changed(ExpressionTree variable) {
        if (variable instanceof ArrayAccessTree access) {
            Element array = trees.getElement(new TreePath(getCurrentPath(), access.getExpression()));
            need(5, array == null || !array.getModifiers().contains(Modifier.STATIC), variable);
        }
        for (TreePath path = getCurrentPath(); path != null; path = path.getParentPath()) {
            if (path.getLeaf() instanceof ForLoopTree loop) {
                need(9, !variable.toString().equals(counterOf(loop)), variable + " is changed in its loop");
            }
        }
    }

    @Override
    public Void visitUnary(UnaryTree tree, Void nothing) {
        boolean steps = Set.of(Tree.Kind.POSTFIX_INCREMENT, Tree.Kind.POSTFIX_DECREMENT, Tree.Kind.PREFIX_INCREMENT,
            Tree.Kind.PREFIX_DECREMENT).contains(tree.getKind());
        Tree statement = getCurrentPath().getParentPath().getLeaf();
        Tree round = getCurrentPath().getParentPath().getParentPath().getLeaf();
        boolean ofLoop = round instanceof ForLoopTree loop && loop.getUpdate().contains(statement);
        if (steps && !ofLoop) {
            changed(tree.getExpression());
        }
        return super.visitUnary(tree, nothing);
    }

    @Override
    public Void visitForLoop(ForLoopTree tree, Void nothing) {
        String counter = counterOf(tree);
        String step = tree.getUpdate().size() == 1 ? tree.getUpdate().get(0).toString() : "";
        String condition = String.valueOf(tree.getCondition());
        boolean up = step.equals(counter + "++;") && condition.matches(".*\\b" + counter + " <=? .*");
        boolean down = step.equals(counter + "--;") && condition.matches(".*\\b" + counter + " >=? .*");
        need(9, (up || down) && !condition.contains("||"), "for (.. ; " + condition + "; " + step + ")");
        return super.visitForLoop(tree, nothing);
    }

    private static String counterOf(ForLoopTree loop) {
        boolean one = loop.getInitializer().size() == 1 && loop.getInitializer().get(0) instanceof VariableTree;
        return one ? ((VariableTree) loop.getInitializer().get(0)).getName().toString() : "";
    }
}
