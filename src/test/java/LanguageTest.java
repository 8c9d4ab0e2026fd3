import com.sun.source.tree.*;
import com.sun.source.util.JavacTask;
import com.sun.source.util.TreePath;
import com.sun.source.util.TreePathScanner;
import com.sun.source.util.Trees;
import java.io.IOException;
import java.lang.reflect.Constructor;
import java.lang.reflect.Field;
import java.lang.reflect.Method;
import java.lang.reflect.Modifier;
import java.nio.charset.StandardCharsets;
import java.nio.file.Files;
import java.nio.file.Path;
import java.util.ArrayList;
import java.util.Arrays;
import java.util.HashMap;
import java.util.HashSet;
import java.util.List;
import java.util.Map;
import java.util.Set;
import java.util.TreeSet;
import java.util.stream.Collectors;
import javax.lang.model.element.Element;
import javax.lang.model.element.ElementKind;
import javax.tools.JavaCompiler;
import javax.tools.StandardJavaFileManager;
import javax.tools.ToolProvider;

/** The rules of LANGUAGE.md, looked for in the program's own source, and the document's face. */
final class LanguageTest {
    private static final String FACE = "row(int,int)int lay(int,int,int)int at(int,int)int tear(int)int "
        + "copy(int,int,int,int,int)int mean(int)int text(int,int)int put(int,int,int)int fault(int)int hands(int)int "
        + "finger(int,int)int joint(int,int)int strain(int)int lamp(int,int,int)int pose(int,int)int help(int,int)int "
        + "back(int)int about(int,int)int turn(int,int)int mark(int,int)int shape(int,int)int thrown(int,int)int "
        + "beast(int,int,int,int)int off(int,int)int many()int nearest(int,int)int never(int,int)int sets(int)int "
        + "way(int,int)int unseen(int,int,int,int)int where(int,int)int picture(int)int order(int,int)int two(int,int)int "
        + "stiff(int,int)int looker(int,int,int)int weight(int,int)int call(int,int,int)int guess(int,int)int "
        + "agrees(int)int fit(int)int odds(int,int)int asked()int upper()long lower()long count(int)int finding()int "
        + "findings(int)int digest()long";
    private static final Set<String> LIBRARY = Set.of("Math.abs", "Math.min", "Math.max", "Long.bitCount", "Integer.bitCount",
        "Long.numberOfTrailingZeros", "System.arraycopy");
    private static final Set<String> TYPES = Set.of("int", "long", "short", "byte", "char", "boolean", "void");

    private static Source source;

    private LanguageTest() {
    }

    /** What one look through the source finds. */
    private static final class Source {
        final List<String> faults = new ArrayList<>();
        final Map<String, Set<String>> calls = new HashMap<>();
        final Map<String, Integer> classes = new HashMap<>();
        final Set<String> made = new HashSet<>();
    }

    private static Source source() throws IOException {
        if (source != null) return source;
        Source found = new Source();
        Path file = Path.of(AllTests.program);
        JavaCompiler compiler = ToolProvider.getSystemJavaCompiler();
        try (StandardJavaFileManager files = compiler.getStandardFileManager(null, null, StandardCharsets.UTF_8)) {
            JavacTask task = (JavacTask) compiler.getTask(null, files, null, List.of("-proc:none"), null, files.getJavaFileObjects(file));
            for (CompilationUnitTree unit : task.parse()) {
                task.analyze();
                if (unit.getPackageName() != null) found.faults.add("a package line");
                if (!unit.getImports().isEmpty()) found.faults.add("an import");
                if (unit.getTypeDecls().size() != 1) found.faults.add("more than one class beside another");
                new Look(found, Trees.instance(task), unit).scan(unit, null);
            }
        }
        source = found;
        return found;
    }

    private static final class Look extends TreePathScanner<Void, Void> {
        private final Source found;
        private final Trees trees;
        private final CompilationUnitTree unit;

        Look(Source found, Trees trees, CompilationUnitTree unit) {
            this.found = found;
            this.trees = trees;
            this.unit = unit;
        }

        private long line(Tree t) {
            return unit.getLineMap().getLineNumber(trees.getSourcePositions().getStartPosition(unit, t));
        }

        private long lastLine(Tree t) {
            return unit.getLineMap().getLineNumber(trees.getSourcePositions().getEndPosition(unit, t));
        }

        private void fault(int rule, Tree t, String what) {
            found.faults.add("rule " + rule + ", line " + line(t) + ": " + what);
        }

        private String method() {
            for (TreePath p = getCurrentPath(); p != null; p = p.getParentPath()) {
                if (p.getLeaf() instanceof MethodTree) return name(trees.getElement(p));
            }
            return "";
        }

        private static String name(Element e) {
            return e.getEnclosingElement().getSimpleName() + "." + e.getSimpleName();
        }

        @Override
        public Void scan(Tree t, Void v) {
            if (t == null) return null;
            switch (t.getKind()) {
                case THROW: case TRY: case CATCH: case SYNCHRONIZED: case ASSERT: case YIELD: case SWITCH_EXPRESSION:
                    fault(6, t, t.getKind().toString());
                    break;
                case LAMBDA_EXPRESSION: case MEMBER_REFERENCE: case RECORD: case ENUM: case INTERFACE: case ANNOTATION:
                    fault(2, t, t.getKind().toString());
                    break;
                case WHILE_LOOP: case DO_WHILE_LOOP:
                    fault(9, t, "a loop whose end its first line does not show");
                    break;
                case FLOAT_LITERAL: case DOUBLE_LITERAL: case STRING_LITERAL: case CHAR_LITERAL:
                    fault(3, t, "a literal that this program has no use for");
                    break;
                default:
                    break;
            }
            return super.scan(t, v);
        }

        @Override
        public Void visitForLoop(ForLoopTree t, Void v) {
            String condition = "" + t.getCondition();
            if (t.getCondition() == null || !condition.matches(".*[<>].*")) fault(9, t, "no bound: " + condition);
            if (t.getUpdate().size() != 1) fault(9, t, "not one counter");
            return super.visitForLoop(t, v);
        }

        @Override
        public Void visitClass(ClassTree t, Void v) {
            Element e = trees.getElement(getCurrentPath());
            boolean outer = e.getSimpleName().contentEquals("HandBeasts");
            String modifiers = t.getModifiers().getFlags().toString();
            if (!outer && !modifiers.equals("[private, static, final]")) fault(2, t, "class " + t.getSimpleName() + " is " + modifiers);
            Tree around = getCurrentPath().getParentPath().getLeaf();
            if (!outer && !(around instanceof ClassTree)) fault(2, t, "a class inside a method");
            int fields = 0;
            for (Tree member : t.getMembers()) {
                if (member instanceof BlockTree) fault(5, member, "an initialiser block");
                if (member instanceof VariableTree && !((VariableTree) member).getModifiers().getFlags().toString().contains("static")) fields++;
            }
            found.classes.put(t.getSimpleName().toString(), fields);
            return super.visitClass(t, v);
        }

        @Override
        public Void visitVariable(VariableTree t, Void v) {
            Element e = trees.getElement(getCurrentPath());
            String type = "" + t.getType();
            String base = type.replace("[]", "");
            if (!TYPES.contains(base) && !isOwn(base)) fault(3, t, "type " + type);
            if (type.endsWith("[][]") && !base.equals("int")) fault(3, t, "type " + type);
            if (type.endsWith("[][][]")) fault(3, t, "type " + type);
            String flags = t.getModifiers().getFlags().toString();
            if (e.getKind() == ElementKind.FIELD && flags.contains("static") && !flags.contains("final")) fault(5, t, "static state " + t.getName());
            return super.visitVariable(t, v);
        }

        private static boolean isOwn(String type) {
            return Arrays.stream(HandBeasts.class.getDeclaredClasses()).anyMatch(c -> c.getSimpleName().equals(type));
        }

        @Override
        public Void visitMethod(MethodTree t, Void v) {
            Element e = trees.getElement(getCurrentPath());
            found.calls.computeIfAbsent(name(e), k -> new TreeSet<>());
            if (line(t) > 0 && lastLine(t) - line(t) > 60) fault(11, t, "a long method");
            if (t.getParameters().size() > 7) fault(11, t, "more than seven parameters");
            boolean outer = e.getEnclosingElement().getSimpleName().contentEquals("HandBeasts");
            boolean open = t.getModifiers().getFlags().toString().contains("public");
            boolean bearsName = Arrays.stream(FACE.split(" ")).anyMatch(f -> f.startsWith(t.getName() + "("));
            if (bearsName && !(outer && open)) fault(1, t, "the name of a public method: " + t.getName());
            if (t.getName().toString().matches("equals|hashCode|toString|compareTo")) fault(6, t, "" + t.getName());
            return super.visitMethod(t, v);
        }

        @Override
        public Void visitMethodInvocation(MethodInvocationTree t, Void v) {
            Element called = trees.getElement(new TreePath(getCurrentPath(), t.getMethodSelect()));
            String name = name(called);
            boolean own = called.getEnclosingElement().toString().startsWith("HandBeasts");
            boolean above = name.equals("Object.<init>");
            if (!own && !above && !LIBRARY.contains(name)) fault(4, t, "call of " + name);
            if (own) found.calls.computeIfAbsent(method(), k -> new TreeSet<>()).add(name);
            return super.visitMethodInvocation(t, v);
        }

        @Override
        public Void visitNewClass(NewClassTree t, Void v) {
            if (t.getClassBody() != null) fault(2, t, "a class without a name");
            if (!isOwn("" + t.getIdentifier())) fault(4, t, "new " + t.getIdentifier());
            String in = method();
            found.made.add(in);
            found.calls.computeIfAbsent(in, k -> new TreeSet<>()).add(t.getIdentifier() + ".<init>");
            return super.visitNewClass(t, v);
        }

        @Override
        public Void visitNewArray(NewArrayTree t, Void v) {
            found.made.add(method());
            return super.visitNewArray(t, v);
        }

        @Override
        public Void visitTypeCast(TypeCastTree t, Void v) {
            if (!TYPES.contains("" + t.getType())) fault(6, t, "a cast to " + t.getType());
            return super.visitTypeCast(t, v);
        }

        @Override
        public Void visitLiteral(LiteralTree t, Void v) {
            if (t.getKind() == Tree.Kind.NULL_LITERAL) fault(7, t, "null, which this program has no use for");
            return super.visitLiteral(t, v);
        }
    }

    static void rulesOfTheSource() throws IOException {
        if (!source().faults.isEmpty()) throw new AssertionError(String.join("; ", source().faults));
    }

    static void rule04NoOtherSigns() throws IOException {
        for (byte b : Files.readAllBytes(Path.of(AllTests.program))) {
            if (b != 10 && (b < 32 || b == 127)) throw new AssertionError("a sign that is none of 32 to 126: " + b);
        }
    }

    static void rule08And11DepthOfCalls() throws IOException {
        for (String method : source().calls.keySet()) {
            int depth = depth(method, new ArrayList<>());
            if (depth > 8) throw new AssertionError(method + " goes " + depth + " deep");
        }
    }

    private static int depth(String method, List<String> open) throws IOException {
        if (open.contains(method)) throw new AssertionError("a recursion: " + open + ", " + method);
        int most = 0;
        open.add(method);
        for (String next : source().calls.getOrDefault(method, Set.of())) most = Math.max(most, depth(next, open));
        open.remove(open.size() - 1);
        return most + 1;
    }

    static void rule11SizeOfTheFile() throws IOException {
        Kit.same("the classes, one too many", source().classes.size() <= 12 ? 0 : source().classes.size(), 0);
        source().classes.forEach((name, fields) -> Kit.same("fields of " + name + ", too many", fields <= 20 ? 0 : fields, 0));
    }

    /** More than the rule asks: all that is made is made with the object, so no run of calls can fill the room. */
    static void rule12NothingIsMadeByCalls() throws IOException {
        for (String method : source().made) {
            if (!method.isEmpty() && !method.endsWith(".<init>")) throw new AssertionError(method + " makes something");
        }
    }

    static void rule12WhatAnObjectNeeds() {
        long[] room = new long[2];
        weigh(new HandBeasts(), room, new HashSet<>());
        // of the some 600000 and 7300000 of all calls of a run
        if (room[0] > 200 || room[1] > 40000) throw new AssertionError(room[0] + " objects, " + room[1] + " fields and elements");
    }

    private static void weigh(Object o, long[] room, Set<Integer> seen) {
        if (o == null || !seen.add(System.identityHashCode(o))) return;
        room[0]++;
        try {
            if (o.getClass().isArray()) {
                int n = java.lang.reflect.Array.getLength(o);
                room[1] += n;
                for (int i = 0; i < n && !o.getClass().getComponentType().isPrimitive(); i++) weigh(java.lang.reflect.Array.get(o, i), room, seen);
                return;
            }
            for (Field f : o.getClass().getDeclaredFields()) {
                if (Modifier.isStatic(f.getModifiers())) continue;
                room[1]++;
                f.setAccessible(true);
                if (!f.getType().isPrimitive()) weigh(f.get(o), room, seen);
            }
        } catch (IllegalAccessException e) {
            throw new AssertionError(e);
        }
    }

    static void rule01TheFace() {
        Class<?> c = HandBeasts.class;
        Kit.same("the class", Modifier.toString(c.getModifiers()), "public final");
        List<String> face = new ArrayList<>();
        for (Method m : c.getDeclaredMethods()) {
            if (Modifier.isPrivate(m.getModifiers())) continue;
            Kit.same(m.getName(), Modifier.toString(m.getModifiers()), "public");
            String types = Arrays.stream(m.getParameterTypes()).map(Class::getName).collect(Collectors.joining(","));
            face.add(m.getName() + "(" + types + ")" + m.getReturnType());
        }
        Kit.same("the methods", new TreeSet<>(face).toString(), new TreeSet<>(Arrays.asList(FACE.split(" "))).toString());
        Constructor<?>[] made = c.getDeclaredConstructors();
        Kit.same("the constructors", made.length, 1);
        Kit.same("the constructor", made[0].toString(), "public HandBeasts()");
        for (Class<?> inside : c.getDeclaredClasses()) {
            Kit.same("class " + inside.getSimpleName(), Modifier.toString(inside.getModifiers()), "private static final");
        }
    }

    static void rule01TheConstants() throws IllegalAccessException {
        Map<String, Integer> due = Map.of("BAD", -1, "FULL", -2, "FINDING", -3, "STATE", -4, "SPENT", -6, "NONE", -9);
        int open = 0;
        for (Field f : HandBeasts.class.getDeclaredFields()) {
            if (Modifier.isPrivate(f.getModifiers())) continue;
            open++;
            Kit.same(f.getName(), Modifier.toString(f.getModifiers()) + " " + f.getType(), "public static final int");
            Kit.same(f.getName(), f.getInt(null), due.getOrDefault(f.getName(), 0));
        }
        Kit.same("how many constants", open, due.size());
    }
}
