import com.sun.source.tree.*;
import com.sun.source.util.JavacTask;
import com.sun.source.util.SourcePositions;
import com.sun.source.util.TreePath;
import com.sun.source.util.TreePathScanner;
import com.sun.source.util.Trees;
import java.io.IOException;
import java.net.URI;
import java.util.ArrayList;
import java.util.HashMap;
import java.util.LinkedHashMap;
import java.util.LinkedHashSet;
import java.util.List;
import java.util.Map;
import java.util.Set;
import javax.lang.model.element.Element;
import javax.lang.model.element.ElementKind;
import javax.lang.model.element.ExecutableElement;
import javax.lang.model.element.Modifier;
import javax.lang.model.element.TypeElement;
import javax.lang.model.type.TypeKind;
import javax.lang.model.type.TypeMirror;
import javax.tools.DiagnosticCollector;
import javax.tools.JavaCompiler;
import javax.tools.JavaFileObject;
import javax.tools.SimpleJavaFileObject;
import javax.tools.ToolProvider;

/** The rules of ../shared/LANGUAGE.md that can be seen in the source, read by the compiler's own tree of it. */
final class SourceRules extends TreePathScanner<Void, Void> {
    private static final int MOST_LINES = 66;
    private static final int MOST_FIELDS = 22;
    private static final int MOST_CLASSES = 13;
    private static final int MOST_PARAMETERS = 7;
    private static final int DEEPEST_CALL = 8;

    private static final Set<String> IMPORTS = Set.of("java.util.ArrayList", "java.util.List", "java.util.Arrays",
            "java.util.Iterator", "java.util.NoSuchElementException", "java.util.*");
    private static final Set<String> EXCEPTIONS = Set.of("IllegalStateException", "IllegalArgumentException",
            "IndexOutOfBoundsException", "ArithmeticException", "UnsupportedOperationException",
            "NoSuchElementException", "RuntimeException");
    private static final Set<String> MADE = Set.of("java.lang.String", "java.lang.StringBuilder", "java.util.ArrayList");
    private static final Set<String> TYPES = Set.of("java.lang.String", "java.lang.StringBuilder", "java.lang.Integer",
            "java.util.ArrayList", "java.util.List", "java.util.Iterator", "java.lang.Iterable", "java.lang.Comparable",
            "java.lang.Object");
    private static final Map<String, Set<String>> CALLS = Map.of(
            "java.lang.String", Set.of("length", "charAt", "isEmpty", "equals", "indexOf", "substring", "toCharArray"),
            "java.lang.StringBuilder", Set.of("append", "charAt", "setCharAt", "setLength", "deleteCharAt", "reverse",
                    "length", "toString"),
            "java.lang.AbstractStringBuilder", Set.of("charAt", "setCharAt", "setLength", "length"),
            "java.util.ArrayList", Set.of("add", "get", "set", "remove", "size", "isEmpty", "clear"),
            "java.util.List", Set.of("add", "get", "set", "remove", "size", "isEmpty", "clear", "of"),
            "java.util.Arrays", Set.of("copyOf", "copyOfRange", "fill"),
            "java.lang.System", Set.of("arraycopy"),
            "java.util.Iterator", Set.of("hasNext", "next"),
            "java.lang.Iterable", Set.of("iterator"),
            "java.lang.Comparable", Set.of("compareTo"));

    private final List<String> faults = new ArrayList<>();
    private final Map<Element, Set<Element>> callees = new LinkedHashMap<>();
    private final Set<String> publicNames = new LinkedHashSet<>();
    private final Set<Element> privateMethods = new LinkedHashSet<>();
    private CompilationUnitTree unit;
    private Trees trees;
    private int classes = 0;

    private SourceRules() {
    }

    /** What of the source breaks a rule, each with its line; nothing if it keeps to them. */
    static List<String> faultsOf(String source) throws IOException {
        SourceRules rules = new SourceRules();
        JavaCompiler compiler = ToolProvider.getSystemJavaCompiler();
        DiagnosticCollector<JavaFileObject> told = new DiagnosticCollector<>();
        JavaFileObject file = new SimpleJavaFileObject(URI.create("string:///TentFields.java"), JavaFileObject.Kind.SOURCE) {
            @Override
            public CharSequence getCharContent(boolean ignoreErrors) {
                return source;
            }
        };
        JavacTask task = (JavacTask) compiler.getTask(null, null, told, List.of("-proc:none"), null, List.of(file));
        rules.trees = Trees.instance(task);
        Iterable<? extends CompilationUnitTree> units = task.parse();
        task.analyze();
        told.getDiagnostics().forEach(one -> rules.faults.add("javac: " + one));
        for (CompilationUnitTree one : units) {
            rules.unit = one;
            rules.scan(one, null);
        }
        rules.end();
        return rules.faults;
    }

    private void fault(Tree tree, String rule) {
        long start = trees.getSourcePositions().getStartPosition(unit, tree);
        faults.add("line " + (start < 0 ? 0 : unit.getLineMap().getLineNumber(start)) + ", rule " + rule);
    }

    private void faultIf(boolean isFault, Tree tree, String rule) {
        if (isFault) {
            fault(tree, rule);
        }
    }

    private void end() {
        if (classes > MOST_CLASSES) {
            faults.add("rule 11: " + classes + " classes");
        }
        for (Element method : privateMethods) {
            if (publicNames.contains(method.getSimpleName().toString())) {
                faults.add("rule 1: the private " + method + " bears a public name");
            }
        }
        for (Element method : callees.keySet()) {
            int deep = depth(method, new LinkedHashSet<>(), new HashMap<>());
            if (deep > DEEPEST_CALL) {
                faults.add("rule 11: calls of " + method + " go " + deep + " deep");
            }
        }
    }

    /** How many calls stand open at most; a call that closes a ring is recursion, which has a rule of its own. */
    private int depth(Element method, Set<Element> open, Map<Element, Integer> known) {
        if (!callees.containsKey(method) || !open.add(method)) {
            return 0;
        }
        int deepest = 0;
        for (Element callee : callees.get(method)) {
            int deep = known.containsKey(callee) ? known.get(callee) : depth(callee, open, known);
            deepest = Math.max(deepest, deep);
        }
        open.remove(method);
        known.put(method, deepest + 1);
        return deepest + 1;
    }

    // ---- where the scan stands

    private Element element() {
        return trees.getElement(getCurrentPath());
    }

    private Element enclosing(Set<ElementKind> kinds) {
        for (TreePath path = getCurrentPath().getParentPath(); path != null; path = path.getParentPath()) {
            Tree tree = path.getLeaf();
            if (tree instanceof MethodTree || tree instanceof ClassTree) {
                Element found = trees.getElement(path);
                if (found != null && kinds.contains(found.getKind())) {
                    return found;
                }
            }
        }
        return null;
    }

    private Element enclosingMethod() {
        return enclosing(Set.of(ElementKind.METHOD, ElementKind.CONSTRUCTOR));
    }

    private static String topClassOf(Element element) {
        Element at = element;
        while (at != null && at.getEnclosingElement() != null && at.getEnclosingElement().getKind() != ElementKind.PACKAGE) {
            at = at.getEnclosingElement();
        }
        return at instanceof TypeElement ? ((TypeElement) at).getQualifiedName().toString() : "";
    }

    private static boolean isOwn(Element element) {
        return topClassOf(element).equals("TentFields");
    }

    private boolean isText(Tree tree) {
        TypeMirror type = trees.getTypeMirror(new TreePath(getCurrentPath(), tree));
        return type != null && type.toString().equals("java.lang.String");
    }

    // ---- rules 1, 2, 5 and 11: classes, fields and methods

    @Override
    public Void visitCompilationUnit(CompilationUnitTree tree, Void none) {
        faultIf(tree.getPackage() != null, tree, "1: no package line");
        faultIf(tree.getTypeDecls().size() != 1, tree, "1: one class in the file");
        return super.visitCompilationUnit(tree, none);
    }

    @Override
    public Void visitImport(ImportTree tree, Void none) {
        String name = tree.getQualifiedIdentifier().toString();
        faultIf(tree.isStatic() || !IMPORTS.contains(name), tree, "4: import " + name);
        return super.visitImport(tree, none);
    }

    @Override
    public Void visitClass(ClassTree tree, Void none) {
        classes++;
        Element type = element();
        int fields = 0;
        for (Tree member : tree.getMembers()) {
            if (member instanceof BlockTree) {
                faultIf(((BlockTree) member).isStatic(), member, "5: no static block");
            }
            if (member instanceof VariableTree) {
                Set<Modifier> marks = ((VariableTree) member).getModifiers().getFlags();
                boolean isStatic = marks.contains(Modifier.STATIC);
                boolean isInner = type.getKind() == ElementKind.INTERFACE || type.getKind() == ElementKind.ENUM;
                faultIf(isStatic && !marks.contains(Modifier.FINAL), member, "5: a static field is final");
                fields += isStatic || isInner ? 0 : 1;
            }
        }
        faultIf(fields > MOST_FIELDS, tree, "11: " + fields + " fields");
        boolean isLocal = getCurrentPath().getParentPath().getLeaf() instanceof BlockTree;
        faultIf(isLocal, tree, "2: no local class");
        return super.visitClass(tree, none);
    }

    @Override
    public Void visitMethod(MethodTree tree, Void none) {
        Element method = element();
        callees.computeIfAbsent(method, key -> new LinkedHashSet<>());
        Set<Modifier> marks = method.getModifiers();
        if (marks.contains(Modifier.PRIVATE) && method.getKind() == ElementKind.METHOD) {
            privateMethods.add(method);
        }
        if (marks.contains(Modifier.PUBLIC) && method.getEnclosingElement().getSimpleName().contentEquals("TentFields")) {
            publicNames.add(method.getSimpleName().toString());
        }
        faultIf(marks.contains(Modifier.SYNCHRONIZED), tree, "6: no synchronized");
        faultIf(tree.getParameters().size() > MOST_PARAMETERS, tree, "11: seven parameters");
        SourcePositions places = trees.getSourcePositions();
        long start = places.getStartPosition(unit, tree);
        long end = places.getEndPosition(unit, tree);
        if (start >= 0 && end >= 0) {
            long lines = unit.getLineMap().getLineNumber(end) - unit.getLineMap().getLineNumber(start) + 1;
            faultIf(lines > MOST_LINES, tree, "11: " + lines + " lines");
        }
        String name = method.getSimpleName().toString();
        boolean isRedone = name.equals("equals") || name.equals("hashCode") || name.equals("toString");
        faultIf(isRedone, tree, "6: no " + name + " of an own class");
        return super.visitMethod(tree, none);
    }

    // ---- rules 3 and 10: types, and texts that are joined

    @Override
    public Void visitVariable(VariableTree tree, Void none) {
        Element variable = element();
        if (variable != null) {
            checkType(tree, variable.asType(), 0);
        }
        return super.visitVariable(tree, none);
    }

    private void checkType(Tree tree, TypeMirror type, int dimensions) {
        if (type.getKind() == TypeKind.ARRAY) {
            checkType(tree, ((javax.lang.model.type.ArrayType) type).getComponentType(), dimensions + 1);
            return;
        }
        faultIf(dimensions > 2 || dimensions == 2 && !type.getKind().isPrimitive(), tree, "3: an array of " + type);
        if (type.getKind() == TypeKind.DECLARED) {
            Element declared = ((javax.lang.model.type.DeclaredType) type).asElement();
            String name = ((TypeElement) declared).getQualifiedName().toString();
            boolean isCaught = EXCEPTIONS.contains(declared.getSimpleName().toString());
            faultIf(!isOwn(declared) && !TYPES.contains(name) && !isCaught, tree, "3: the type " + name);
        }
    }

    @Override
    public Void visitBinary(BinaryTree tree, Void none) {
        boolean isJoined = tree.getKind() == Tree.Kind.PLUS && (isText(tree.getLeftOperand()) || isText(tree.getRightOperand()));
        faultIf(isJoined, tree, "10: texts are joined by StringBuilder");
        return super.visitBinary(tree, none);
    }

    @Override
    public Void visitCompoundAssignment(CompoundAssignmentTree tree, Void none) {
        faultIf(isText(tree.getVariable()), tree, "10: texts are joined by StringBuilder");
        return super.visitCompoundAssignment(tree, none);
    }

    @Override
    public Void visitLiteral(LiteralTree tree, Void none) {
        if (tree.getValue() instanceof String) {
            boolean isPlain = ((String) tree.getValue()).chars().allMatch(sign -> sign >= 1 && sign <= 127);
            faultIf(!isPlain, tree, "4: signs of a text are 1 to 127");
        }
        return super.visitLiteral(tree, none);
    }

    // ---- rule 4: what is called and made

    @Override
    public Void visitMethodInvocation(MethodInvocationTree tree, Void none) {
        Element called = element();
        Element caller = enclosingMethod();
        if (called != null && isOwn(called)) {
            noteCall(caller, called);
        } else if (called != null && !isAllowed((ExecutableElement) called)) {
            fault(tree, "4: " + called.getEnclosingElement() + "." + called);
        }
        return super.visitMethodInvocation(tree, none);
    }

    private void noteCall(Element caller, Element called) {
        if (caller != null) {
            callees.computeIfAbsent(caller, key -> new LinkedHashSet<>()).add(called);
        }
    }

    private static boolean isAllowed(ExecutableElement called) {
        String owner = called.getEnclosingElement().toString();
        String name = called.getSimpleName().toString();
        if (name.equals("<init>") || name.equals("clone") || name.equals("values")) {
            return true;
        }
        if (owner.equals("java.lang.Math") || owner.equals("java.lang.Integer") || owner.equals("java.lang.Long")) {
            return called.getModifiers().contains(Modifier.STATIC) && !name.endsWith("Exact") && isOfWholeNumbers(called);
        }
        return CALLS.getOrDefault(owner.replaceAll("<.*", ""), Set.of()).contains(name);
    }

    private static boolean isOfWholeNumbers(ExecutableElement called) {
        boolean isWhole = isWhole(called.getReturnType());
        for (var parameter : called.getParameters()) {
            isWhole &= isWhole(parameter.asType());
        }
        return isWhole;
    }

    private static boolean isWhole(TypeMirror type) {
        return type.getKind() == TypeKind.INT || type.getKind() == TypeKind.LONG;
    }

    @Override
    public Void visitNewClass(NewClassTree tree, Void none) {
        Element maker = element();
        Element type = maker == null ? null : maker.getEnclosingElement();
        if (type != null && isOwn(type)) {
            noteCall(enclosingMethod(), maker);
        } else if (type != null && !MADE.contains(type.toString())
                && !EXCEPTIONS.contains(type.getSimpleName().toString()) && tree.getClassBody() == null) {
            fault(tree, "4: new " + type);
        }
        return super.visitNewClass(tree, none);
    }

    // ---- rules 2 and 6: what may not be written at all

    @Override
    public Void visitLambdaExpression(LambdaExpressionTree tree, Void none) {
        fault(tree, "2: no lambda");
        return super.visitLambdaExpression(tree, none);
    }

    @Override
    public Void visitMemberReference(MemberReferenceTree tree, Void none) {
        fault(tree, "2: no method reference");
        return super.visitMemberReference(tree, none);
    }

    @Override
    public Void visitSynchronized(SynchronizedTree tree, Void none) {
        fault(tree, "6: no synchronized");
        return super.visitSynchronized(tree, none);
    }

    @Override
    public Void visitAssert(AssertTree tree, Void none) {
        fault(tree, "6: no assert");
        return super.visitAssert(tree, none);
    }

    @Override
    public Void visitTry(TryTree tree, Void none) {
        faultIf(tree.getFinallyBlock() != null, tree, "6: no finally");
        faultIf(!tree.getResources().isEmpty(), tree, "6: no try with resources");
        return super.visitTry(tree, none);
    }

    @Override
    public Void visitThrow(ThrowTree tree, Void none) {
        boolean isNew = tree.getExpression() instanceof NewClassTree;
        String name = isNew ? ((NewClassTree) tree.getExpression()).getIdentifier().toString() : "";
        faultIf(!EXCEPTIONS.contains(name.replaceAll(".*\\.", "")), tree, "6: throw new one of seven exceptions");
        Element method = enclosingMethod();
        boolean isInConstructor = method != null && method.getKind() == ElementKind.CONSTRUCTOR;
        faultIf(isInConstructor, tree, "6: no throw in a constructor");
        return super.visitThrow(tree, none);
    }

    @Override
    public Void visitCatch(CatchTree tree, Void none) {
        String types = tree.getParameter().getType().toString();
        for (String type : types.split("\\|")) {
            boolean isListed = EXCEPTIONS.contains(type.trim().replaceAll(".*\\.", ""));
            faultIf(!isListed, tree, "6: catch (" + type.trim() + ")");
        }
        return super.visitCatch(tree, none);
    }
}
