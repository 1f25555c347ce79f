import com.sun.source.tree.*;
import com.sun.source.util.*;
import java.io.File;
import java.util.*;
import javax.lang.model.element.*;
import javax.lang.model.type.TypeKind;
import javax.tools.*;

/**
 * The rules of ../shared/LANGUAGE.md, as far as the compiler's own tree can tell them.
 * The first argument is the file that they bind; without one, it is looked for from the root of the checkout.
 */
public final class LanguageTest {
    private static final int MOST_LINES = 60, MOST_PARAMETERS = 7, MOST_CLASSES = 12, MOST_FIELDS = 20, MOST_DEEP = 8;

    private static final Set<Tree.Kind> FORBIDDEN = EnumSet.of(Tree.Kind.THROW, Tree.Kind.TRY, Tree.Kind.CATCH,
        Tree.Kind.SYNCHRONIZED, Tree.Kind.ASSERT, Tree.Kind.LAMBDA_EXPRESSION, Tree.Kind.MEMBER_REFERENCE,
        Tree.Kind.ANNOTATION, Tree.Kind.PACKAGE, Tree.Kind.BINDING_PATTERN, Tree.Kind.SWITCH_EXPRESSION);

    private static final Set<String> LIBRARY = Set.of("java.lang.Object.<init>", "java.lang.String.length",
        "java.lang.String.charAt", "java.lang.String.isEmpty", "java.lang.String.substring",
        "java.lang.String.toCharArray", "java.lang.StringBuilder.append", "java.lang.StringBuilder.toString",
        "java.util.ArrayList.<init>", "java.util.ArrayList.add", "java.util.ArrayList.get",
        "java.util.ArrayList.set", "java.util.ArrayList.remove", "java.util.ArrayList.size",
        "java.util.ArrayList.isEmpty", "java.util.ArrayList.clear", "java.lang.Math.max", "java.lang.Math.min",
        "java.lang.Math.abs", "java.lang.System.arraycopy");

    private final Map<ExecutableElement, Set<ExecutableElement>> calls = new LinkedHashMap<>();
    private final Map<ExecutableElement, Integer> depths = new HashMap<>();
    private Trees trees;
    private CompilationUnitTree unit;
    private JavacTask task;

    public static void main(String[] args) throws Exception {
        LanguageTest test = new LanguageTest();
        test.read(new File(args.length > 0 ? args[0] : "src/main/java/NylonLadder.java"));
        test.checkFace();
        test.checkTree();
        test.checkDepths();
        Check.end("LanguageTest");
    }

    private void read(File file) throws Exception {
        JavaCompiler compiler = ToolProvider.getSystemJavaCompiler();
        StandardJavaFileManager files = compiler.getStandardFileManager(null, null, null);
        task = (JavacTask) compiler.getTask(null, files, null, List.of("-proc:none"), null,
            files.getJavaFileObjects(file));
        unit = task.parse().iterator().next();
        task.analyze();
        trees = Trees.instance(task);
    }

    private void checkFace() {
        Set<String> face = new TreeSet<>();
        for (java.lang.reflect.Method method : NylonLadder.class.getDeclaredMethods()) {
            int how = method.getModifiers();
            if (java.lang.reflect.Modifier.isPublic(how)) {
                face.add(method.getName() + Arrays.toString(method.getParameterTypes()) + method.getReturnType());
            } else {
                Check.holds("private or no member: " + method, java.lang.reflect.Modifier.isPrivate(how));
            }
        }
        Set<String> due = new TreeSet<>();
        String[] names = ("drawer0 set2 lawOf1 stocking4 of2 mind3 snag2 turn2 dab2 dabOf2 wash1 mend1 wear2 leg3 "
            + "legOf3 clear1 move1 go1 minutes1 open3 seen3 when3 dabbed3 bestLeg3 turned3 better0 good0 pairs0 mate1 "
            + "worth1 since3 from3 seed1 day0 month1 prove2 row2 alterRow3 judge2 minds4 sheet3 put3 item3 shelf3 "
            + "taken2 act3 trace1 many1 keep0 again0").split(" ");
        for (String name : names) {
            int last = name.length() - 1;
            String parameters = "int, int, int, int".substring(0, Math.max(0, 5 * (name.charAt(last) - '0') - 2));
            due.add(name.substring(0, last) + "[" + parameters + "]int");
        }
        due.add("feed[long, int]int");
        due.add("costs[int, int, int]long");
        Check.holds("the face is " + due + " and not " + face, face.equals(due));
        Check.due("public constructors", NylonLadder.class.getConstructors().length, 1);
        Check.due("public constants", NylonLadder.class.getFields().length, 4);
    }

    private void checkTree() {
        int[] classes = {0};
        new TreePathScanner<Void, Void>() {
            @Override
            public Void scan(Tree tree, Void nothing) {
                if (tree != null) {
                    Check.holds("nothing of kind " + tree.getKind() + ": " + tree, !FORBIDDEN.contains(tree.getKind()));
                }
                return super.scan(tree, nothing);
            }

            @Override
            public Void visitClass(ClassTree tree, Void nothing) {
                classes[0]++;
                checkClass(tree, (TypeElement) trees.getElement(getCurrentPath()));
                return super.visitClass(tree, nothing);
            }

            @Override
            public Void visitMethod(MethodTree tree, Void nothing) {
                checkMethod(tree, (ExecutableElement) trees.getElement(getCurrentPath()));
                return super.visitMethod(tree, nothing);
            }

            @Override
            public Void visitMethodInvocation(MethodInvocationTree tree, Void nothing) {
                addCall(getCurrentPath());
                return super.visitMethodInvocation(tree, nothing);
            }

            @Override
            public Void visitNewClass(NewClassTree tree, Void nothing) {
                Check.holds("no class without a name", tree.getClassBody() == null);
                addCall(getCurrentPath());
                return super.visitNewClass(tree, nothing);
            }

            @Override
            public Void visitBinary(BinaryTree tree, Void nothing) {
                boolean isText = typeOf(tree.getLeftOperand()).contains("String")
                    || typeOf(tree.getRightOperand()).contains("String");
                Check.holds("no sign between texts: " + tree, !isText);
                boolean isBoxed = typeOf(tree.getLeftOperand()).equals("java.lang.Integer")
                    && typeOf(tree.getRightOperand()).equals("java.lang.Integer");
                Check.holds("no == between Integers: " + tree, !isBoxed);
                return super.visitBinary(tree, nothing);
            }

            private String typeOf(Tree tree) {
                return String.valueOf(trees.getTypeMirror(new TreePath(getCurrentPath(), tree)));
            }
        }.scan(unit, null);
        Check.holds("at most " + MOST_CLASSES + " classes, not " + classes[0], classes[0] <= MOST_CLASSES);
    }

    private static void checkClass(ClassTree tree, TypeElement type) {
        Set<Modifier> how = type.getModifiers();
        boolean isOuter = type.getNestingKind() == NestingKind.TOP_LEVEL;
        Check.holds("public and final, or static and neither: " + type, isOuter
            ? how.contains(Modifier.PUBLIC) && how.contains(Modifier.FINAL)
            : type.getNestingKind() == NestingKind.MEMBER && how.contains(Modifier.STATIC)
                && !how.contains(Modifier.PUBLIC) && !how.contains(Modifier.PROTECTED));
        int fields = 0;
        for (Element member : type.getEnclosedElements()) {
            if (member.getKind() == ElementKind.FIELD) {
                fields += member.getModifiers().contains(Modifier.STATIC) ? 0 : 1;
                checkField((VariableElement) member);
            }
            boolean isShown = member.getModifiers().contains(Modifier.PUBLIC);
            Check.holds("the outer class's own members are public or private: " + member,
                !isOuter || member instanceof TypeElement || isShown
                    || member.getModifiers().contains(Modifier.PRIVATE));
            Check.holds("nothing public inside: " + member, isOuter || !isShown);
            Check.holds("no static block: " + type, member.getKind() != ElementKind.STATIC_INIT);
        }
        Check.holds("at most " + MOST_FIELDS + " fields: " + tree.getSimpleName(), fields <= MOST_FIELDS);
    }

    private static void checkField(VariableElement field) {
        if (field.getModifiers().contains(Modifier.STATIC)) {
            Check.holds("static and final: " + field, field.getModifiers().contains(Modifier.FINAL));
            Check.holds("a constant or an array of numbers: " + field,
                Set.of("int", "long", "boolean", "char", "java.lang.String", "int[]", "long[]", "char[]", "byte[]")
                    .contains(field.asType().toString()));
        }
    }

    private void checkMethod(MethodTree tree, ExecutableElement method) {
        calls.putIfAbsent(method, new LinkedHashSet<>());
        SourcePositions places = trees.getSourcePositions();
        LineMap lines = unit.getLineMap();
        long from = lines.getLineNumber(Math.max(0, places.getStartPosition(unit, tree)));
        long to = lines.getLineNumber(Math.max(0, places.getEndPosition(unit, tree)));
        Check.holds("at most " + MOST_LINES + " lines: " + method, to - from < MOST_LINES);
        Check.holds("at most 7 parameters: " + method, tree.getParameters().size() <= MOST_PARAMETERS);
        String name = method.getSimpleName().toString();
        Check.holds("no method of every object: " + name, !Set.of("equals", "hashCode", "toString").contains(name));
        if (!method.getModifiers().contains(Modifier.PUBLIC) && method.getKind() == ElementKind.METHOD) {
            for (java.lang.reflect.Method other : NylonLadder.class.getMethods()) {
                Check.holds("no other method bears the name " + name, !other.getName().equals(name));
            }
        }
    }

    private void addCall(TreePath path) {
        ExecutableElement called = (ExecutableElement) trees.getElement(path);
        TreePath at = path;
        while (at != null && at.getLeaf().getKind() != Tree.Kind.METHOD) {
            at = at.getParentPath();
        }
        String owner = called.getEnclosingElement().toString();
        if (owner.startsWith("java.")) {
            String name = owner + "." + called.getSimpleName();
            Check.holds("in the library: " + name, LIBRARY.contains(name));
        }
        if (at != null) {
            calls.computeIfAbsent((ExecutableElement) trees.getElement(at), key -> new LinkedHashSet<>()).add(called);
        }
    }

    /** How many of the file's own methods stand open at once; the library's count nothing. */
    private void checkDepths() {
        for (ExecutableElement method : new ArrayList<>(calls.keySet())) {
            int deep = depthOf(method, new ArrayDeque<>());
            Check.holds(method + " goes " + deep + " deep", deep <= MOST_DEEP);
        }
    }

    private static boolean isConstructor(ExecutableElement method) {
        return method.getKind() == ElementKind.CONSTRUCTOR;
    }

    private int depthOf(ExecutableElement method, Deque<ExecutableElement> open) {
        Integer known = depths.get(method);
        if (known != null) {
            return known;
        }
        if (open.contains(method)) {
            Check.holds("no recursion: " + method.getEnclosingElement() + "." + method, false);
            return 1000;
        }
        open.push(method);
        int deepest = 0;
        for (ExecutableElement called : calls.getOrDefault(method, Set.of())) {
            for (ExecutableElement body : bodiesOf(method, called)) {
                deepest = Math.max(deepest, depthOf(body, open));
            }
        }
        open.pop();
        boolean isLibrary = method.getEnclosingElement().toString().startsWith("java.");
        depths.put(method, isLibrary ? 0 : deepest + 1);
        return depths.get(method);
    }

    /** A call of super's method (told by its name and owner) runs that one; any other runs what overrides it, too. */
    private List<ExecutableElement> bodiesOf(ExecutableElement from, ExecutableElement called) {
        List<ExecutableElement> bodies = new ArrayList<>(List.of(called));
        boolean isSuper = from.getSimpleName().equals(called.getSimpleName())
            && from.getEnclosingElement() != called.getEnclosingElement()
            && task.getTypes().isSubtype(from.getEnclosingElement().asType(), called.getEnclosingElement().asType());
        if (isSuper || called.getReturnType().getKind() == TypeKind.NONE || isConstructor(called)) {
            return bodies;
        }
        for (ExecutableElement other : calls.keySet()) {
            if (other != called && task.getElements().overrides(other, called,
                    (TypeElement) other.getEnclosingElement())) {
                bodies.add(other);
            }
        }
        return bodies;
    }
}
