import com.sun.source.tree.*;
import com.sun.source.util.JavacTask;
import com.sun.source.util.TreePath;
import com.sun.source.util.TreePathScanner;
import com.sun.source.util.Trees;
import java.io.IOException;
import java.lang.management.ManagementFactory;
import java.lang.reflect.Array;
import java.lang.reflect.Constructor;
import java.lang.reflect.Field;
import java.lang.reflect.Method;
import java.lang.reflect.Modifier;
import java.nio.charset.StandardCharsets;
import java.nio.file.Files;
import java.nio.file.Path;
import java.util.ArrayList;
import java.util.Arrays;
import java.util.Collections;
import java.util.HashMap;
import java.util.IdentityHashMap;
import java.util.List;
import java.util.Map;
import java.util.Set;
import java.util.TreeSet;
import java.util.stream.Collectors;
import javax.lang.model.element.Element;
import javax.lang.model.element.ElementKind;
import javax.lang.model.element.ExecutableElement;
import javax.lang.model.element.TypeElement;
import javax.lang.model.element.VariableElement;
import javax.lang.model.type.ArrayType;
import javax.lang.model.type.DeclaredType;
import javax.lang.model.type.TypeKind;
import javax.lang.model.type.TypeMirror;
import javax.tools.JavaCompiler;
import javax.tools.StandardJavaFileManager;
import javax.tools.ToolProvider;

/** The rules of LANGUAGE.md, looked for in the program's own source, and the document's face. */
final class LanguageTest {
    private static final String FACE = "row(int,int)int lay(int,int,int)int at(int,int)int tear(int)int "
        + "copy(int,int,int,int,int)int mean(int)int text(int,int)int put(int,int,int)int fault(int)int hands(int)int "
        + "finger(int,int)int joint(int,int)int strain(int)int lamp(int,int,int)int pose(int,int)int help(int,int)int "
        + "back(int)int about(int,int)int turn(int,int)int mark(int,int)int shape(int,int)int thrown(int,int)int "
        + "beast(int,int,int,int)int off(int,int)int many()int nearest(int,int)int never(int,int)int sets(int)int "
        + "way(int,int)int unseen(int,int,int,int)int where(int,int)int picture(int)int order(int,int)int two(int,int)int "
        + "stiff(int,int)int looker(int,int,int)int weight(int,int)int call(int,int,int)int guess(int,int)int "
        + "agrees(int)int fit(int)int odds(int,int)int asked()int upper()long lower()long count(int)int finding()int "
        + "findings(int)int digest()long";
    /** Rule 4, but for the static functions of Integer, Long and Math. */
    private static final Map<String, Set<String>> LIBRARY = Map.of(
        "String", Set.of("length", "charAt", "isEmpty", "equals", "indexOf", "substring", "toCharArray"),
        "StringBuilder", Set.of("append", "charAt", "setCharAt", "setLength", "deleteCharAt", "reverse", "length", "toString"),
        "ArrayList", Set.of("add", "get", "set", "remove", "size", "isEmpty", "clear"),
        "List", Set.of("add", "get", "set", "remove", "size", "isEmpty", "clear", "of"),
        "Iterator", Set.of("hasNext", "next"),
        "Iterable", Set.of("iterator"),
        "System", Set.of("arraycopy"),
        "Arrays", Set.of("copyOf", "copyOfRange", "fill"),
        "Array", Set.of("clone"),
        "Enum", Set.of("ordinal"));
    private static final Set<String> IMPORTS = Set.of("java.util.ArrayList", "java.util.List", "java.util.Iterator", "java.util.Arrays");
    /** Of the rules that say "some": this much more than what they say is still that. */
    private static final int LINES = 66, CLASSES = 13, FIELDS = 22;
    /** Rule 12: the room of a run. */
    private static final long ROOM_OBJECTS = 600_000, ROOM_ELEMENTS = 7_300_000;

    private static Source source;

    private LanguageTest() {
    }

    /** What one look through the source finds. */
    private static final class Source {
        final List<String> faults = new ArrayList<>();
        final Map<String, Set<String>> calls = new HashMap<>();
        final Map<String, Integer> classes = new HashMap<>();
    }

    private static Source source() throws IOException {
        if (source != null) return source;
        Source found = new Source();
        Path file = Path.of(AllTests.program);
        JavaCompiler compiler = ToolProvider.getSystemJavaCompiler();
        try (StandardJavaFileManager files = compiler.getStandardFileManager(null, null, StandardCharsets.UTF_8)) {
            JavacTask task = (JavacTask) compiler.getTask(null, files, null, List.of("-proc:none"), null, files.getJavaFileObjects(file));
            for (CompilationUnitTree unit : task.parse()) {
                task.analyze();
                if (unit.getPackageName() != null) found.faults.add("a package line");
                for (ImportTree t : unit.getImports()) {
                    if (t.isStatic() || !IMPORTS.contains("" + t.getQualifiedIdentifier())) found.faults.add("rule 4: " + t);
                }
                if (unit.getTypeDecls().size() != 1) found.faults.add("a class beside the one of the document");
                new Look(found, Trees.instance(task), unit).scan(unit, null);
            }
        }
        source = found;
        return found;
    }

    private static final class Look extends TreePathScanner<Void, Void> {
        private final Source found;
        private final Trees trees;
        private final CompilationUnitTree unit;

        Look(Source found, Trees trees, CompilationUnitTree unit) {
            this.found = found;
            this.trees = trees;
            this.unit = unit;
        }

        private long line(Tree t) {
            return unit.getLineMap().getLineNumber(trees.getSourcePositions().getStartPosition(unit, t));
        }

        private long lastLine(Tree t) {
            return unit.getLineMap().getLineNumber(trees.getSourcePositions().getEndPosition(unit, t));
        }

        private void fault(int rule, Tree t, String what) {
            found.faults.add("rule " + rule + ", line " + line(t) + ": " + what);
        }

        private String method() {
            for (TreePath p = getCurrentPath(); p != null; p = p.getParentPath()) {
                if (p.getLeaf() instanceof MethodTree) return name(trees.getElement(p));
            }
            return "";
        }

        private static String name(Element e) {
            return e.getEnclosingElement().getSimpleName() + "." + e.getSimpleName();
        }

        private TypeMirror typeOf(Tree t) {
            return trees.getTypeMirror(new TreePath(getCurrentPath(), t));
        }

        @Override
        public Void scan(Tree t, Void v) {
            if (t == null) return null;
            switch (t.getKind()) {
                case THROW: case TRY: case CATCH: case SYNCHRONIZED: case ASSERT:
                    fault(6, t, t.getKind().toString());
                    break;
                case LAMBDA_EXPRESSION: case MEMBER_REFERENCE:
                    fault(2, t, t.getKind().toString());
                    break;
                default:
                    break;
            }
            return super.scan(t, v);
        }

        // ---- rule 9: a loop's end

        private void loop(Tree t, ExpressionTree condition) {
            String told = ("" + condition).replaceAll("[()]", "");
            if (condition == null || told.equals("true")) fault(9, t, "a loop whose end is not seen");
        }

        @Override
        public Void visitForLoop(ForLoopTree t, Void v) {
            loop(t, t.getCondition());
            return super.visitForLoop(t, v);
        }

        @Override
        public Void visitWhileLoop(WhileLoopTree t, Void v) {
            loop(t, t.getCondition());
            return super.visitWhileLoop(t, v);
        }

        @Override
        public Void visitDoWhileLoop(DoWhileLoopTree t, Void v) {
            loop(t, t.getCondition());
            return super.visitDoWhileLoop(t, v);
        }

        // ---- rules 2, 3, 5: classes, types, static fields

        @Override
        public Void visitClass(ClassTree t, Void v) {
            Element e = trees.getElement(getCurrentPath());
            Tree around = getCurrentPath().getParentPath().getLeaf();
            boolean outer = around instanceof CompilationUnitTree;
            if (!outer && !(around instanceof ClassTree)) fault(2, t, "a class inside a method, or without a name");
            if (!outer && !e.getModifiers().contains(javax.lang.model.element.Modifier.STATIC)) fault(2, t, "a class that is not static");
            int fields = 0;
            for (Tree member : t.getMembers()) {
                if (member instanceof BlockTree && ((BlockTree) member).isStatic()) fault(5, member, "a static initialiser block");
                if (member instanceof VariableTree && !((VariableTree) member).getModifiers().getFlags().toString().contains("static")) fields++;
            }
            found.classes.put(t.getSimpleName().toString(), fields);
            return super.visitClass(t, v);
        }

        @Override
        public Void visitVariable(VariableTree t, Void v) {
            Element e = trees.getElement(getCurrentPath());
            TypeMirror type = e.asType();
            if (!isType(type)) fault(3, t, "type " + type);
            boolean field = e.getKind() == ElementKind.FIELD;
            if (field && e.getModifiers().contains(javax.lang.model.element.Modifier.STATIC)) staticField(t, (VariableElement) e, type);
            return super.visitVariable(t, v);
        }

        private void staticField(VariableTree t, VariableElement e, TypeMirror type) {
            if (!e.getModifiers().contains(javax.lang.model.element.Modifier.FINAL)) fault(5, t, "static state " + t.getName());
            String told = type.toString();
            if (Set.of("int", "long", "boolean", "char", "java.lang.String").contains(told)) return;
            boolean written = t.getInitializer() instanceof NewArrayTree && ((NewArrayTree) t.getInitializer()).getInitializers() != null;
            if (Set.of("int[]", "long[]", "char[]", "byte[]").contains(told) && written) return;
            if (("" + t.getInitializer()).endsWith(".values()")) return;
            fault(5, t, "a static field of type " + type);
        }

        private static boolean isOwn(TypeMirror type) {
            return type.getKind() == TypeKind.DECLARED && ("" + ((DeclaredType) type).asElement()).startsWith("HandBeasts");
        }

        private static boolean isType(TypeMirror type) {
            if (type.getKind().isPrimitive() || type.getKind() == TypeKind.TYPEVAR || isOwn(type)) return true;
            if (type.getKind() == TypeKind.ARRAY) return isArray((ArrayType) type);
            if (type.getKind() != TypeKind.DECLARED) return false;
            String told = type.toString();
            if (Set.of("java.lang.String", "java.lang.StringBuilder", "java.lang.Integer").contains(told)) return true;
            if (!told.matches("java\\.util\\.(ArrayList|List|Iterator)<.*>|java\\.lang\\.(Iterable|Comparable)<.*>")) return false;
            TypeMirror of = ((DeclaredType) type).getTypeArguments().get(0);
            return isOwn(of) || of.getKind() == TypeKind.TYPEVAR || of.toString().equals("java.lang.Integer");
        }

        private static boolean isArray(ArrayType type) {
            TypeMirror of = type.getComponentType();
            if (of.getKind() != TypeKind.ARRAY) return of.getKind().isPrimitive() || isOwn(of);
            TypeMirror number = ((ArrayType) of).getComponentType();
            return number.getKind().isPrimitive() && number.getKind() != TypeKind.BOOLEAN;
        }

        // ---- rules 1, 4, 6, 10, 11: methods and calls

        @Override
        public Void visitMethod(MethodTree t, Void v) {
            Element e = trees.getElement(getCurrentPath());
            found.calls.computeIfAbsent(name(e), k -> new TreeSet<>());
            if (lastLine(t) - line(t) > LINES) fault(11, t, "a long method");
            if (t.getParameters().size() > 7) fault(11, t, "more than seven parameters");
            boolean bearsName = Arrays.stream(FACE.split(" ")).anyMatch(f -> f.startsWith(t.getName() + "("));
            boolean hidden = e.getModifiers().contains(javax.lang.model.element.Modifier.PRIVATE);
            if (bearsName && hidden) fault(1, t, "a private method of the name of a public one: " + t.getName());
            if (t.getName().toString().matches("equals|hashCode|toString")) fault(6, t, "" + t.getName());
            return super.visitMethod(t, v);
        }

        @Override
        public Void visitMethodInvocation(MethodInvocationTree t, Void v) {
            ExecutableElement called = (ExecutableElement) trees.getElement(new TreePath(getCurrentPath(), t.getMethodSelect()));
            boolean own = ("" + called.getEnclosingElement()).startsWith("HandBeasts");
            if (!own && !isListed(called)) fault(4, t, "call of " + name(called));
            if (own) found.calls.computeIfAbsent(method(), k -> new TreeSet<>()).add(name(called));
            return super.visitMethodInvocation(t, v);
        }

        private static boolean isListed(ExecutableElement called) {
            String of = called.getEnclosingElement().getSimpleName().toString().replace("AbstractStringBuilder", "StringBuilder");
            String name = called.getSimpleName().toString();
            if (name.equals("<init>")) return Set.of("Object", "Enum", "Record").contains(of);
            if (!Set.of("Integer", "Long", "Math").contains(of)) return LIBRARY.getOrDefault(of, Set.of()).contains(name);
            boolean numbers = called.getParameters().stream().allMatch(p -> p.asType().toString().matches("int|long"));
            return numbers && called.getReturnType().toString().matches("int|long") && !name.endsWith("Exact");
        }

        @Override
        public Void visitNewClass(NewClassTree t, Void v) {
            TypeMirror made = typeOf(t.getIdentifier());
            boolean listed = ("" + made).matches("java\\.util\\.ArrayList(<.*>)?|java\\.lang\\.(StringBuilder|String)");
            if (!isOwn(made) && !listed) fault(4, t, "new " + made);
            found.calls.computeIfAbsent(method(), k -> new TreeSet<>()).add(t.getIdentifier() + ".<init>");
            return super.visitNewClass(t, v);
        }

        private static boolean isText(TypeMirror type) {
            return type != null && type.toString().equals("java.lang.String");
        }

        @Override
        public Void visitBinary(BinaryTree t, Void v) {
            TypeMirror left = typeOf(t.getLeftOperand());
            TypeMirror right = typeOf(t.getRightOperand());
            boolean same = t.getKind() == Tree.Kind.EQUAL_TO || t.getKind() == Tree.Kind.NOT_EQUAL_TO;
            if (same && isText(left) && isText(right)) fault(6, t, "== of two Strings");
            if (same && (left + " " + right).equals("java.lang.Integer java.lang.Integer")) fault(6, t, "== of two Integers");
            if (t.getKind() == Tree.Kind.PLUS && (isText(left) || isText(right))) fault(10, t, "+ of texts");
            return super.visitBinary(t, v);
        }

        @Override
        public Void visitCompoundAssignment(CompoundAssignmentTree t, Void v) {
            if (isText(typeOf(t.getVariable()))) fault(10, t, "+= of texts");
            return super.visitCompoundAssignment(t, v);
        }
    }

    static void rulesOfTheSource() throws IOException {
        if (!source().faults.isEmpty()) throw new AssertionError(String.join("; ", source().faults));
    }

    static void rule04SignsAre1To127() throws IOException {
        for (byte b : Files.readAllBytes(Path.of(AllTests.program))) {
            if (b <= 0) throw new AssertionError("a sign that is none of 1 to 127: " + b);
        }
    }

    static void rule11DepthOfCalls() throws IOException {
        for (String method : source().calls.keySet()) {
            int depth = depth(method, new ArrayList<>());
            if (depth > 8) throw new AssertionError(method + " goes " + depth + " deep");
        }
    }

    /** How deep the calls go that are no recursion. */
    private static int depth(String method, List<String> open) throws IOException {
        if (open.contains(method)) return 0;
        int most = 0;
        open.add(method);
        for (String next : source().calls.getOrDefault(method, Set.of())) most = Math.max(most, depth(next, open));
        open.remove(open.size() - 1);
        return most + 1;
    }

    static void rule11SizeOfTheFile() throws IOException {
        Kit.same("the classes, too many", source().classes.size() <= CLASSES ? 0 : source().classes.size(), 0);
        source().classes.forEach((name, fields) -> Kit.same("fields of " + name + ", too many", fields <= FIELDS ? 0 : fields, 0));
    }

    /** An object in the room, and 512 of the dearest calls, of as many TURNS as may be. */
    static void rule12TheRoomOfARun() {
        HandBeasts x = Kit.withHands(EdgesOfBeastsTest.ALL_HELD, 6);
        Kit.pose(x, HandBeasts.NONE, 1, -2, -2, -2, -2, -2, -2);
        Kit.pose(x, HandBeasts.NONE, 1, 1, 1, 1, 1, 1, 1);
        Kit.shadow(x, 0, 5, 5);
        x.beast(0, 0, 0, 0);
        Kit.Act[] dear = {y -> y.picture(0), y -> y.order(3, 1), y -> y.unseen(0, 1, 0, 0), y -> y.two(0, 0), y -> y.where(0, 0), y -> y.hands(3)};
        long[] room = new long[2];
        weigh(x, room, Collections.newSetFromMap(new IdentityHashMap<>()));
        for (Kit.Act call : dear) {
            // what is made is told in bytes: of an object's head and of each element, taken as 8 alike
            long made = bytesMadeBy(x, call) / 8;
            if (room[0] > ROOM_OBJECTS || room[1] + 512 * made > ROOM_ELEMENTS) throw new AssertionError("an object of " + room[1] + ", a call of " + made);
        }
    }

    private static long bytesMadeBy(HandBeasts x, Kit.Act call) {
        // once ahead, as the machine itself makes something when a call is new to it
        call.answer(x);
        com.sun.management.ThreadMXBean thread = (com.sun.management.ThreadMXBean) ManagementFactory.getThreadMXBean();
        long before = thread.getThreadAllocatedBytes(Thread.currentThread().getId());
        call.answer(x);
        return thread.getThreadAllocatedBytes(Thread.currentThread().getId()) - before;
    }

    private static void weigh(Object o, long[] room, Set<Object> seen) {
        if (o == null || !seen.add(o)) return;
        room[0]++;
        try {
            if (o.getClass().isArray()) {
                int n = Array.getLength(o);
                room[1] += n;
                for (int i = 0; i < n && !o.getClass().getComponentType().isPrimitive(); i++) weigh(Array.get(o, i), room, seen);
                return;
            }
            for (Field f : o.getClass().getDeclaredFields()) {
                if (Modifier.isStatic(f.getModifiers()) || !o.getClass().getName().startsWith("HandBeasts")) continue;
                room[1]++;
                f.setAccessible(true);
                if (!f.getType().isPrimitive()) weigh(f.get(o), room, seen);
            }
        } catch (IllegalAccessException e) {
            throw new AssertionError(e);
        }
    }

    static void rule01TheFace() {
        Class<?> c = HandBeasts.class;
        Kit.same("the class", Modifier.toString(c.getModifiers()), "public final");
        List<String> face = new ArrayList<>();
        for (Method m : c.getDeclaredMethods()) {
            if (Modifier.isPrivate(m.getModifiers()) || m.isSynthetic()) continue;
            Kit.same(m.getName(), Modifier.toString(m.getModifiers()), "public");
            String types = Arrays.stream(m.getParameterTypes()).map(Class::getName).collect(Collectors.joining(","));
            face.add(m.getName() + "(" + types + ")" + m.getReturnType());
        }
        Kit.same("the methods", new TreeSet<>(face).toString(), new TreeSet<>(Arrays.asList(FACE.split(" "))).toString());
        Constructor<?>[] made = c.getDeclaredConstructors();
        Kit.same("the constructors", made.length, 1);
        Kit.same("the constructor", made[0].toString(), "public HandBeasts()");
        for (Class<?> inside : c.getDeclaredClasses()) {
            if (!Modifier.toString(inside.getModifiers()).matches("(?!.*(public|protected)).*static.*")) {
                throw new AssertionError("class " + inside.getSimpleName() + " is " + Modifier.toString(inside.getModifiers()));
            }
        }
    }

    static void rule01TheConstants() throws IllegalAccessException {
        Map<String, Integer> due = Map.of("BAD", -1, "FULL", -2, "FINDING", -3, "STATE", -4, "SPENT", -6, "NONE", -9);
        int open = 0;
        for (Field f : HandBeasts.class.getDeclaredFields()) {
            if (Modifier.isPrivate(f.getModifiers()) || f.isSynthetic()) continue;
            open++;
            Kit.same(f.getName(), Modifier.toString(f.getModifiers()) + " " + f.getType(), "public static final int");
            Kit.same(f.getName(), f.getInt(null), due.getOrDefault(f.getName(), 0));
        }
        Kit.same("how many constants", open, due.size());
    }
}
