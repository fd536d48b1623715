import com.sun.source.tree.CompilationUnitTree;
import com.sun.source.tree.MethodInvocationTree;
import com.sun.source.tree.MethodTree;
import com.sun.source.tree.NewArrayTree;
import com.sun.source.tree.NewClassTree;
import com.sun.source.util.JavacTask;
import com.sun.source.util.TreePathScanner;
import com.sun.source.util.Trees;
import java.io.IOException;
import java.lang.reflect.Constructor;
import java.lang.reflect.Field;
import java.lang.reflect.Method;
import java.lang.reflect.Modifier;
import java.nio.charset.StandardCharsets;
import java.nio.file.Files;
import java.nio.file.Path;
import java.util.HashMap;
import java.util.Map;
import java.util.Set;
import java.util.TreeMap;
import java.util.TreeSet;
import javax.lang.model.element.Element;
import javax.tools.JavaCompiler;
import javax.tools.StandardJavaFileManager;
import javax.tools.ToolProvider;

/** Holds the class against the face of the document and the rules of LANGUAGE.md that can be seen. */
public final class LanguageTest {
    private static final String[] FACE = {
        "int customer(int)", "int visit(int,int)", "int basket(int,int,int,int)", "int baskets()",
        "int lose(int,int)", "int find(int,int)", "int iron(int)", "int pass(int)", "int buy(int)", "int pay(int)",
        "int set(int,int)", "int type(char)", "int clearText()", "int fault()", "int undo()", "int keep()",
        "int restore()", "int customerOf(int,int)", "int basketOf(int,int)", "int lost(int,int)",
        "int ordered(int)", "int book(int,int)", "int count(int)", "float meanMinutes()",
        "int ifIroned(int,int,int)", "int bestOrder(int)", "int homeOn(int,int)", "int wanting()", "int sure()"};
    private static final Set<String> CONSTANTS = Set.of("UNKNOWN", "BAD_VALUE", "FULL", "NOT_POSSIBLE", "NONE");
    private static final String[] FORBIDDEN = {"->", "::", "import ", "package ", "synchronized", "assert ",
        "finally", "catch", "try ", "throw", "static {", "System.out", "Exact(", "hashCode", "toString",
        "System.nanoTime", "System.currentTimeMillis", "Random", "Thread", "@Override", "\" +", "+ \""};

    private static final Path FILE = Path.of("src/main/java/IroningBaskets.java");
    private static final int DEEPEST = 8;
    private static final Set<String> LIBRARY = Set.of("Math.max", "Math.min", "System.arraycopy", "Object.<init>");

    private static int wrong;

    public static void main(String[] args) throws IOException {
        face();
        nested();
        source();
        calls();
        System.out.println("LanguageTest: " + wrong + " wrong");
        if (wrong != 0) {
            System.exit(1);
        }
    }

    private static void must(boolean holds, String what) {
        if (!holds) {
            wrong++;
            System.out.println(what);
        }
    }

    private static String signature(Method m) {
        StringBuilder text = new StringBuilder();
        text.append(m.getReturnType().getName()).append(' ').append(m.getName()).append('(');
        for (int i = 0; i < m.getParameterCount(); i++) {
            text.append(i == 0 ? "" : ",").append(m.getParameterTypes()[i].getName());
        }
        return text.append(')').toString();
    }

    private static void face() {
        Class<?> c = IroningBaskets.class;
        must(Modifier.isFinal(c.getModifiers()) && Modifier.isPublic(c.getModifiers()), "the class is public final");
        Set<String> methods = new TreeSet<>();
        Set<String> names = new TreeSet<>();
        for (Method m : c.getDeclaredMethods()) {
            if (!Modifier.isPrivate(m.getModifiers()) && !m.isSynthetic()) {
                methods.add(signature(m));
                names.add(m.getName());
                must(m.getModifiers() == Modifier.PUBLIC, m.getName() + " is public and no more");
            }
        }
        must(methods.equals(new TreeSet<>(Set.of(FACE))), "the methods are those of the face: " + methods);
        for (Class<?> any : withNested(c)) {
            for (Method m : any.getDeclaredMethods()) {
                must(any == c && Modifier.isPublic(m.getModifiers()) || !names.contains(m.getName()),
                        any.getName() + "." + m.getName() + " bears the name of a public one");
            }
        }
        for (Field f : c.getDeclaredFields()) {
            boolean open = Modifier.isPublic(f.getModifiers());
            must(open ? CONSTANTS.contains(f.getName()) : Modifier.isPrivate(f.getModifiers()), f.getName());
        }
        Constructor<?>[] made = c.getDeclaredConstructors();
        must(made.length == 1 && made[0].getModifiers() == Modifier.PUBLIC && made[0].getParameterCount() == 0,
                "there is one constructor");
    }

    private static Set<Class<?>> withNested(Class<?> c) {
        Set<Class<?>> all = new java.util.LinkedHashSet<>();
        all.add(c);
        all.addAll(Set.of(c.getDeclaredClasses()));
        return all;
    }

    private static void nested() {
        Set<Class<?>> all = withNested(IroningBaskets.class);
        must(all.size() <= 12, "some twelve classes, not " + all.size());
        for (Class<?> c : all) {
            int fields = 0;
            for (Field f : c.getDeclaredFields()) {
                if (Modifier.isStatic(f.getModifiers())) {
                    must(Modifier.isFinal(f.getModifiers()), c.getName() + "." + f.getName() + " is final");
                } else {
                    fields++;
                }
            }
            must(fields <= 20, c.getName() + " has " + fields + " fields");
            for (Method m : c.getDeclaredMethods()) {
                must(m.getParameterCount() <= 7, m.getName() + " takes at most seven parameters");
            }
        }
    }

    private static void source() throws IOException {
        String text = Files.readString(FILE, StandardCharsets.UTF_8);
        for (String sign : FORBIDDEN) {
            must(!text.contains(sign), "the source holds " + sign);
        }
        must(text.chars().allMatch(c -> c < 128), "the source holds ASCII alone");
        int start = 0;
        String[] lines = text.split("\n");
        for (int i = 0; i < lines.length; i++) {
            if (lines[i].matches(" {4}( {4})?[a-z].*\\) \\{")) {
                start = i;
            }
            must(i - start <= 60 || !lines[i].matches(" {4}( {4})?\\}"), "a long method ends in line " + (i + 1));
            if (lines[i].matches(" {4}( {4})?\\}")) {
                start = i + 1;
            }
        }
    }

    /** Who calls whom, as the compiler sees it: by the methods' classes, names and parameters. */
    private static final class Calls extends TreePathScanner<Void, Void> {
        final Map<String, Set<String>> callees = new TreeMap<>();
        final Set<String> library = new TreeSet<>();
        final Set<String> making = new TreeSet<>();
        private final Trees trees;
        private String caller = "";

        Calls(Trees trees) {
            this.trees = trees;
        }

        private static String name(Element method) {
            return method.getEnclosingElement().getSimpleName() + "." + method;
        }

        @Override
        public Void visitMethod(MethodTree method, Void nothing) {
            caller = name(trees.getElement(getCurrentPath()));
            callees.put(caller, new TreeSet<>());
            super.visitMethod(method, nothing);
            caller = "";
            return nothing;
        }

        @Override
        public Void visitMethodInvocation(MethodInvocationTree call, Void nothing) {
            Element called = trees.getElement(getCurrentPath());
            if (!caller.isEmpty()) {
                callees.get(caller).add(name(called));
            }
            if (called.getEnclosingElement().toString().startsWith("java.")) {
                library.add(called.getEnclosingElement().getSimpleName() + "." + called.getSimpleName());
            }
            return super.visitMethodInvocation(call, nothing);
        }

        @Override
        public Void visitNewClass(NewClassTree made, Void nothing) {
            making.add(caller);
            return super.visitNewClass(made, nothing);
        }

        @Override
        public Void visitNewArray(NewArrayTree made, Void nothing) {
            making.add(caller);
            return super.visitNewArray(made, nothing);
        }
    }

    private static void calls() throws IOException {
        JavaCompiler compiler = ToolProvider.getSystemJavaCompiler();
        try (StandardJavaFileManager files = compiler.getStandardFileManager(null, null, null)) {
            JavacTask task = (JavacTask) compiler.getTask(null, files, null, null, null,
                    files.getJavaFileObjects(FILE));
            Iterable<? extends CompilationUnitTree> units = task.parse();
            task.analyze();
            Calls calls = new Calls(Trees.instance(task));
            for (CompilationUnitTree unit : units) {
                calls.scan(unit, null);
            }
            Map<String, Integer> depths = new HashMap<>();
            must(calls.callees.size() > FACE.length, "the methods are found");
            for (String method : calls.callees.keySet()) {
                int depth = depth(method, calls.callees, depths);
                must(depth <= DEEPEST, method + " opens " + depth + " calls at once");
            }
            must(LIBRARY.containsAll(calls.library), "of the library: " + calls.library);
            calls.making.remove("");
            for (String method : calls.making) {
                must(method.matches("(\\w+)\\.\\1\\(.*"), method + " makes an object, and is no constructor");
            }
        }
    }

    /** The most calls that stand open at once, the method's own among them; far too many if it calls itself. */
    private static int depth(String method, Map<String, Set<String>> callees, Map<String, Integer> known) {
        Integer before = known.get(method);
        if (before != null) {
            return before;
        }
        known.put(method, 1000);
        int deepest = 0;
        for (String callee : callees.getOrDefault(method, Set.of())) {
            deepest = Math.max(deepest, depth(callee, callees, known));
        }
        known.put(method, deepest + 1);
        return deepest + 1;
    }
}
