import com.sun.source.tree.*;
import com.sun.source.util.*;
import java.io.File;
import java.util.*;
import javax.lang.model.element.*;
import javax.lang.model.type.*;
import javax.tools.*;

/** What of ../shared/LANGUAGE.md can be told from the source alone: forbidden words, members, sizes, depth of calls. */
public final class LanguageTest {
    private static final Set<String> FACE = new TreeSet<>(Arrays.asList(("feed river card told hang of stream level boards hour rain run holds fails"
        + " fixed found lines drunk raised mean same act trace as image undo count").split(" ")));
    private static final Set<String> CONSTANTS = new TreeSet<>(Arrays.asList("NONE", "BAD", "STATE", "FULL", "NO"));
    /** The library, as rule 4 tells it, as far as a class like this may want it; Math, Integer and Long are looked at apart. */
    private static final Set<String> LIBRARY = new TreeSet<>(Arrays.asList(("String.length String.charAt String.isEmpty String.equals String.indexOf"
        + " String.substring String.toCharArray StringBuilder.append StringBuilder.charAt StringBuilder.setCharAt StringBuilder.setLength"
        + " StringBuilder.deleteCharAt StringBuilder.reverse StringBuilder.length StringBuilder.toString System.arraycopy Arrays.copyOf"
        + " Arrays.copyOfRange Arrays.fill").split(" ")));
    private static final int MOST_LINES = 60, MOST_PARAMETERS = 7, MOST_CLASSES = 12, MOST_FIELDS = 20, MOST_DEEP = 8;

    private final List<String> faults = new ArrayList<>();
    private final CompilationUnitTree unit;
    private final Trees trees;
    private final Map<String, Set<String>> calls = new TreeMap<>();
    private int classes = 0;

    private LanguageTest(String file) throws Exception {
        JavaCompiler compiler = ToolProvider.getSystemJavaCompiler();
        StandardJavaFileManager files = compiler.getStandardFileManager(null, null, null);
        JavacTask task = (JavacTask) compiler.getTask(null, files, null, Arrays.asList("-proc:none"), null, files.getJavaFileObjects(new File(file)));
        unit = task.parse().iterator().next();
        task.analyze();
        trees = Trees.instance(task);
    }

    public static void main(String[] args) throws Exception {
        LanguageTest test = new LanguageTest(args[0] + "/src/main/java/SluiceCards.java");
        test.look();
        for (String fault : test.faults) System.out.println("LANGUAGE.md: " + fault);
        System.out.println("LanguageTest: " + test.classes + " classes, " + test.calls.size() + " methods, calls go " + test.deepest() + " deep, "
            + test.faults.size() + " faults");
        if (!test.faults.isEmpty() || test.calls.size() < FACE.size()) System.exit(1);
    }

    private void fault(Tree where, String what) {
        long line = unit.getLineMap().getLineNumber(trees.getSourcePositions().getStartPosition(unit, where));
        faults.add("line " + line + ": " + what);
    }

    private long lines(Tree tree) {
        LineMap map = unit.getLineMap();
        SourcePositions places = trees.getSourcePositions();
        return map.getLineNumber(places.getEndPosition(unit, tree)) - map.getLineNumber(places.getStartPosition(unit, tree)) + 1;
    }

    private void look() {
        if (unit.getPackageName() != null) faults.add("a package");
        for (ImportTree each : unit.getImports()) fault(each, "an import");
        if (unit.getTypeDecls().size() != 1) faults.add("more than one class outside");
        new Words().scan(unit, null);
        if (classes > MOST_CLASSES) faults.add(classes + " classes");
        if (deepest() > MOST_DEEP) faults.add("calls go " + deepest() + " deep");
    }

    /** The longest chain of calls, methods that call one another standing as one. */
    private int deepest() {
        int most = 0;
        for (String method : calls.keySet()) most = Math.max(most, depth(method, new HashMap<>(), new ArrayDeque<>()));
        return most;
    }

    private int depth(String method, Map<String, Integer> known, Deque<String> open) {
        if (known.containsKey(method)) return known.get(method);
        open.push(method);
        Set<String> ring = ring(method);
        int below = 0;
        for (String member : ring) {
            for (String called : calls.getOrDefault(member, Set.of())) {
                if (!ring.contains(called)) below = Math.max(below, depth(called, known, open));
            }
        }
        open.pop();
        // A ring of methods (such as an expression's parts) counts with all its members.
        known.put(method, below + ring.size());
        return below + ring.size();
    }

    private Set<String> ring(String method) {
        Set<String> ring = new TreeSet<>();
        ring.add(method);
        for (String other : reached(method)) if (reached(other).contains(method)) ring.add(other);
        return ring;
    }

    private Set<String> reached(String method) {
        Set<String> all = new TreeSet<>();
        Deque<String> todo = new ArrayDeque<>(calls.getOrDefault(method, Set.of()));
        while (!todo.isEmpty()) {
            String next = todo.pop();
            if (all.add(next)) todo.addAll(calls.getOrDefault(next, Set.of()));
        }
        return all;
    }

    /** Whether a type is a number's, a text's, one of the class's own, or an array that rule 3 lets stand. */
    private static boolean isAllowed(TypeMirror type) {
        if (type.getKind() == TypeKind.ARRAY) {
            TypeMirror part = ((ArrayType) type).getComponentType();
            return isNumbers(type) || isOwn(part) || part.getKind() == TypeKind.ARRAY && isNumbers(part);
        }
        return type.getKind().isPrimitive() || type.getKind() == TypeKind.VOID || isOwn(type) || isText(type)
            || type.toString().equals("java.lang.StringBuilder");
    }

    private static boolean isNumbers(TypeMirror type) {
        return type.getKind() == TypeKind.ARRAY && ((ArrayType) type).getComponentType().getKind().isPrimitive();
    }

    private static boolean isOwn(TypeMirror type) {
        return type.getKind() == TypeKind.DECLARED && type.toString().startsWith("SluiceCards");
    }

    private static boolean isText(TypeMirror type) {
        return type.toString().equals("java.lang.String");
    }

    private final class Words extends TreePathScanner<Void, Void> {
        private String method = null;
        private int nesting = 0;

        private Void no(Tree tree, String what) {
            fault(tree, what);
            return null;
        }

        @Override public Void visitThrow(ThrowTree t, Void v) { return no(t, "throw"); }
        @Override public Void visitTry(TryTree t, Void v) { return no(t, "try"); }
        @Override public Void visitSynchronized(SynchronizedTree t, Void v) { return no(t, "synchronized"); }
        @Override public Void visitAssert(AssertTree t, Void v) { return no(t, "assert"); }
        @Override public Void visitLambdaExpression(LambdaExpressionTree t, Void v) { return no(t, "a lambda"); }
        @Override public Void visitMemberReference(MemberReferenceTree t, Void v) { return no(t, "a method reference"); }
        @Override public Void visitAnnotation(AnnotationTree t, Void v) { return no(t, "an annotation"); }

        @Override public Void visitBlock(BlockTree t, Void v) {
            if (getCurrentPath().getParentPath().getLeaf() instanceof ClassTree) fault(t, "an initialiser block");
            return super.visitBlock(t, v);
        }

        @Override public Void visitClass(ClassTree t, Void v) {
            classes++;
            Set<Modifier> is = t.getModifiers().getFlags();
            boolean outer = nesting == 0;
            if (outer && !(is.contains(Modifier.PUBLIC) && is.contains(Modifier.FINAL))) fault(t, "the class is public and final");
            if (!outer && (!is.contains(Modifier.STATIC) || is.contains(Modifier.PUBLIC) || is.contains(Modifier.PROTECTED))) fault(t, "a class inside");
            if (!(getCurrentPath().getParentPath().getLeaf() instanceof ClassTree) && !outer) fault(t, "a local class");
            int fields = 0;
            for (Tree member : t.getMembers()) {
                if (member instanceof VariableTree && field((VariableTree) member, outer)) fields++;
            }
            if (fields > MOST_FIELDS) fault(t, fields + " fields");
            nesting++;
            super.visitClass(t, v);
            nesting--;
            return null;
        }

        /** Whether it is no constant. */
        private boolean field(VariableTree t, boolean outer) {
            Set<Modifier> is = t.getModifiers().getFlags();
            String name = t.getName().toString();
            boolean shown = CONSTANTS.contains(name) && is.contains(Modifier.STATIC);
            if (outer && shown != is.contains(Modifier.PUBLIC)) fault(t, "the face: " + name);
            if (outer && !shown && !is.contains(Modifier.PRIVATE)) fault(t, "the face: " + name);
            if (!is.contains(Modifier.STATIC)) return true;
            String type = t.getType().toString();
            if (!is.contains(Modifier.FINAL) || !type.matches("(int|long|char|byte)(\\[\\])?|boolean|String")) fault(t, "static " + name);
            return false;
        }

        @Override public Void visitMethod(MethodTree t, Void v) {
            Element it = trees.getElement(getCurrentPath());
            String before = method;
            method = nameOf(it);
            calls.putIfAbsent(method, new TreeSet<>());
            String name = t.getName().toString();
            Set<Modifier> is = t.getModifiers().getFlags();
            boolean outer = nesting == 1, constructor = name.equals("<init>");
            if (outer && !constructor && is.contains(Modifier.PUBLIC) != FACE.contains(name)) fault(t, "the face: " + name);
            if (outer && !is.contains(Modifier.PUBLIC) && !is.contains(Modifier.PRIVATE)) fault(t, "seen in the package: " + name);
            if (!outer && FACE.contains(name)) fault(t, "bears the name of a public one: " + name);
            if (t.getParameters().size() > MOST_PARAMETERS) fault(t, t.getParameters().size() + " parameters");
            if (trees.getSourcePositions().getEndPosition(unit, t) >= 0 && lines(t) > MOST_LINES) fault(t, lines(t) + " lines");
            super.visitMethod(t, v);
            method = before;
            return null;
        }

        private String nameOf(Element it) {
            return it.getEnclosingElement() + "." + it;
        }

        private void called(Element it) {
            if (method == null || it == null || !(it instanceof ExecutableElement)) return;
            if (it.getEnclosingElement().toString().startsWith("SluiceCards")) calls.get(method).add(nameOf(it));
        }

        private TypeMirror typeOf(Tree t) {
            return trees.getTypeMirror(new TreePath(getCurrentPath(), t));
        }

        private TypeMirror typeOfReceiver(MethodInvocationTree t) {
            TreePath select = new TreePath(getCurrentPath(), t.getMethodSelect());
            ExpressionTree receiver = t.getMethodSelect() instanceof MemberSelectTree ? ((MemberSelectTree) t.getMethodSelect()).getExpression() : null;
            return receiver == null ? trees.getTypeMirror(select) : trees.getTypeMirror(new TreePath(select, receiver));
        }

        /** Rule 4: no library but what it lists, over arrays of numbers alone. */
        private void lookAtLibrary(MethodInvocationTree t, Element it) {
            if (it == null) {
                fault(t, "what is called is not known");
                return;
            }
            String where = it.getEnclosingElement().getSimpleName().toString(), name = it.getSimpleName().toString();
            if (it.getEnclosingElement().toString().startsWith("SluiceCards") || name.equals("<init>")) return;
            if (name.equals("clone")) {
                if (!isNumbers(typeOfReceiver(t))) fault(t, "clone of what is no array of numbers");
                return;
            }
            boolean counts = where.equals("Math") || where.equals("Integer") || where.equals("Long");
            if (counts ? !it.getModifiers().contains(Modifier.STATIC) || name.endsWith("Exact") : !LIBRARY.contains(where + "." + name)) {
                fault(t, "the library: " + where + "." + name);
            }
            for (ExpressionTree each : t.getArguments()) {
                TypeMirror type = typeOf(each);
                if (type.getKind() == TypeKind.ARRAY && !isNumbers(type)) fault(t, where + "." + name + " over " + type);
            }
        }

        @Override public Void visitVariable(VariableTree t, Void v) {
            TypeMirror type = trees.getElement(getCurrentPath()).asType();
            if (!isAllowed(type)) fault(t, "a variable of type " + type);
            return super.visitVariable(t, v);
        }

        @Override public Void visitBinary(BinaryTree t, Void v) {
            boolean text = isText(typeOf(t.getLeftOperand())) || isText(typeOf(t.getRightOperand()));
            if (text) fault(t, "texts joined or compared by " + t.getKind());
            return super.visitBinary(t, v);
        }

        @Override public Void visitInstanceOf(InstanceOfTree t, Void v) {
            if (!isOwn(trees.getTypeMirror(new TreePath(getCurrentPath(), t.getType())))) fault(t, "instanceof");
            return super.visitInstanceOf(t, v);
        }

        @Override public Void visitMethodInvocation(MethodInvocationTree t, Void v) {
            called(trees.getElement(getCurrentPath()));
            lookAtLibrary(t, trees.getElement(getCurrentPath()));
            String what = t.getMethodSelect().toString();
            if (what.matches(".*\\.(equals|hashCode|toString|getClass|format)")) fault(t, what);
            return super.visitMethodInvocation(t, v);
        }

        @Override public Void visitNewClass(NewClassTree t, Void v) {
            called(trees.getElement(getCurrentPath()));
            if (t.getClassBody() != null) fault(t, "an anonymous class");
            return super.visitNewClass(t, v);
        }

        @Override public Void visitPrimitiveType(PrimitiveTypeTree t, Void v) {
            String type = t.toString();
            if (type.equals("float") || type.equals("double")) fault(t, type + ": the document asks for none");
            return super.visitPrimitiveType(t, v);
        }
    }
}
