import com.sun.source.tree.BinaryTree;
import com.sun.source.tree.ClassTree;
import com.sun.source.tree.CompilationUnitTree;
import com.sun.source.tree.MethodInvocationTree;
import com.sun.source.tree.MethodTree;
import com.sun.source.tree.NewArrayTree;
import com.sun.source.tree.NewClassTree;
import com.sun.source.tree.ThrowTree;
import com.sun.source.tree.Tree;
import com.sun.source.tree.VariableTree;
import com.sun.source.util.JavacTask;
import com.sun.source.util.TreePath;
import com.sun.source.util.TreePathScanner;
import com.sun.source.util.Trees;
import java.io.IOException;
import java.nio.file.Path;
import java.util.ArrayList;
import java.util.List;
import java.util.Map;
import java.util.Set;
import java.util.TreeMap;
import java.util.TreeSet;
import javax.lang.model.element.Element;
import javax.lang.model.element.ElementKind;
import javax.lang.model.element.ExecutableElement;
import javax.lang.model.element.Modifier;
import javax.lang.model.element.TypeElement;
import javax.lang.model.type.TypeMirror;
import javax.tools.JavaCompiler;
import javax.tools.StandardJavaFileManager;
import javax.tools.ToolProvider;

/** Rules of LANGUAGE.md that show only when the compiler has found out what each name stands for. */
final class TreeTests extends TreePathScanner<Void, String> {
    private static final int DEEPEST = 8;
    private static final int MOST_PARAMETERS = 7;
    private static final int MOST_LINES = 60;
    private static final int MOST_CLASSES = 12;
    private static final int MOST_FIELDS = 20;
    private static final Set<String> NUMBERS = Set.of("int", "long", "short", "byte", "char", "boolean", "double",
            "float");
    private static final Set<String> LIBRARY = Set.of("Long.bitCount(long)", "Math.max(int,int)",
            "Math.min(int,int)", "String.charAt(int)", "String.length()", "StringBuilder.append(char)",
            "StringBuilder.append(int)", "StringBuilder.charAt(int)", "StringBuilder.length()",
            "StringBuilder.setLength(int)",
            "System.arraycopy(java.lang.Object,int,java.lang.Object,int,int)");
    private static final Set<String> EXCEPTIONS = Set.of("IllegalStateException", "IllegalArgumentException",
            "IndexOutOfBoundsException", "ArithmeticException", "UnsupportedOperationException",
            "NoSuchElementException", "RuntimeException");
    private final Tally tally;
    private final Trees trees;
    private final CompilationUnitTree file;
    private final Map<String, Set<String>> callees = new TreeMap<>();
    private final List<String> faceMethods = new ArrayList<>();
    private int classes = 0;

    private TreeTests(Tally tally, Trees trees, CompilationUnitTree file) {
        this.tally = tally;
        this.trees = trees;
        this.file = file;
    }

    static void run(Tally tally, Path source) throws IOException {
        JavaCompiler compiler = ToolProvider.getSystemJavaCompiler();
        try (StandardJavaFileManager files = compiler.getStandardFileManager(null, null, null)) {
            JavacTask task = (JavacTask) compiler.getTask(null, files, null, List.of("-proc:none"), null,
                    files.getJavaFileObjects(source));
            CompilationUnitTree file = task.parse().iterator().next();
            task.analyze();
            TreeTests tests = new TreeTests(tally, Trees.instance(task), file);
            tests.scan(file, "");
            tests.dueCalls();
        }
    }

    private void dueAtMost(String what, int most, long got) {
        tally.due(what + " is at most " + most, 1, () -> Tally.truth(got <= most));
    }

    private void dueOneOf(String what, Set<String> allowed, String got) {
        tally.due(what + " " + got, 1, () -> Tally.truth(allowed.contains(got)));
    }

    private void dueCalls() {
        dueAtMost("rule 11: number of classes", MOST_CLASSES, classes);
        tally.due("the methods of the face", 44, faceMethods::size);
        for (String method : faceMethods) {
            dueAtMost("rule 11: depth of calls below " + method, DEEPEST, depthBelow(method, 0));
        }
    }

    /** Stops behind the deepest that is allowed, so that recursion shows as well. */
    private int depthBelow(String method, int above) {
        int deepest = above + 1;
        if (above <= DEEPEST) {
            for (String callee : callees.getOrDefault(method, Set.of())) {
                deepest = Math.max(deepest, depthBelow(callee, above + 1));
            }
        }
        return deepest;
    }

    @Override
    public Void visitClass(ClassTree one, String caller) {
        classes++;
        long fields = one.getMembers().stream().filter(member -> member instanceof VariableTree variable
                && !variable.getModifiers().getFlags().contains(Modifier.STATIC)).count();
        dueAtMost("rule 11: fields of " + one.getSimpleName(), MOST_FIELDS, fields);
        return super.visitClass(one, one.getSimpleName().toString());
    }

    @Override
    public Void visitMethod(MethodTree method, String caller) {
        Element element = trees.getElement(getCurrentPath());
        String name = nameOf(element);
        if (element.getModifiers().contains(Modifier.PUBLIC) && element.getKind() == ElementKind.METHOD) {
            faceMethods.add(name);
        }
        dueAtMost("rule 11: parameters of " + name, MOST_PARAMETERS, method.getParameters().size());
        if (element.getKind() == ElementKind.METHOD) {
            dueAtMost("rule 11: lines of " + name, MOST_LINES, linesOf(method));
        }
        return super.visitMethod(method, name);
    }

    private long linesOf(Tree tree) {
        long begin = trees.getSourcePositions().getStartPosition(file, tree);
        long end = trees.getSourcePositions().getEndPosition(file, tree);
        return file.getLineMap().getLineNumber(end) - file.getLineMap().getLineNumber(begin) + 1;
    }

    @Override
    public Void visitMethodInvocation(MethodInvocationTree call, String caller) {
        Element callee = trees.getElement(getCurrentPath());
        if (callee.getKind() == ElementKind.METHOD) {
            String name = nameOf(callee).replace("AbstractStringBuilder", "StringBuilder");
            if (isOwn((TypeElement) callee.getEnclosingElement())) {
                callees.computeIfAbsent(caller, key -> new TreeSet<>()).add(name);
            } else {
                dueOneOf("rule 4: " + caller + " calls", LIBRARY, name);
            }
        }
        return super.visitMethodInvocation(call, caller);
    }

    private static String nameOf(Element method) {
        StringBuilder parameters = new StringBuilder();
        for (Element parameter : ((ExecutableElement) method).getParameters()) {
            parameters.append(parameters.length() == 0 ? "" : ",").append(parameter.asType());
        }
        return method.getEnclosingElement().getSimpleName() + "." + method.getSimpleName() + "(" + parameters + ")";
    }

    private static boolean isOwn(TypeElement type) {
        String name = type.getQualifiedName().toString();
        return name.equals("MapSanatorium") || name.startsWith("MapSanatorium.");
    }

    /** All that is made is an own object, a StringBuilder, or an exception that is thrown at once. */
    @Override
    public Void visitNewClass(NewClassTree made, String caller) {
        TypeElement type = (TypeElement) trees.getElement(getCurrentPath()).getEnclosingElement();
        boolean thrown = getCurrentPath().getParentPath().getLeaf() instanceof ThrowTree;
        String name = type.getSimpleName().toString();
        if (thrown) {
            dueOneOf("rule 6: " + caller + " throws", EXCEPTIONS, name);
            tally.due("rule 6: no throw in a constructor", 0, () -> Tally.truth(caller.contains("<init>")));
        } else {
            tally.due("rule 3: " + caller + " makes " + name, 1,
                    () -> Tally.truth(isOwn(type) || name.equals("StringBuilder")));
            dueBuilding("an object", caller);
        }
        return super.visitNewClass(made, caller);
    }

    @Override
    public Void visitNewArray(NewArrayTree made, String caller) {
        dueBuilding("a row", caller);
        return super.visitNewArray(made, caller);
    }

    /** All that an object needs is made with it, so that no run of calls can fill the room. */
    private void dueBuilding(String what, String caller) {
        boolean building = !caller.contains("(") || caller.contains("<init>");
        tally.due("rule 12: " + caller + " makes " + what, 1, () -> Tally.truth(building));
    }

    @Override
    public Void visitVariable(VariableTree variable, String caller) {
        Element element = trees.getElement(getCurrentPath());
        String type = element.asType().toString();
        String part = type.replace("[]", "");
        boolean own = part.startsWith("MapSanatorium.");
        boolean number = NUMBERS.contains(part);
        boolean text = type.equals("java.lang.String") || type.equals("java.lang.StringBuilder");
        int dimensions = (type.length() - part.length()) / 2;
        tally.due("rule 3: " + caller + " has a variable of " + type, 1, () -> Tally.truth(
                text || own && dimensions <= 1 || number && dimensions <= 2));
        if (element.getModifiers().contains(Modifier.STATIC)) {
            tally.due("rule 5: " + variable.getName(), 1, () -> Tally.truth(
                    element.getModifiers().contains(Modifier.FINAL)
                            && Set.of("int", "long", "char", "boolean", "java.lang.String").contains(type)));
        }
        return super.visitVariable(variable, caller);
    }

    /** Texts are not joined or compared by an operator, and doubles and floats are only divided. */
    @Override
    public Void visitBinary(BinaryTree operation, String caller) {
        for (Tree side : List.of(operation.getLeftOperand(), operation.getRightOperand())) {
            TypeMirror type = trees.getTypeMirror(new TreePath(getCurrentPath(), side));
            boolean fraction = type.toString().equals("double") || type.toString().equals("float");
            tally.due("rules 3 and 10: " + caller + " " + operation, 1, () -> Tally.truth(
                    type.getKind().isPrimitive() && (!fraction || operation.getKind() == Tree.Kind.DIVIDE)));
        }
        return super.visitBinary(operation, caller);
    }
}
