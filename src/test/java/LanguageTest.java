import java.io.IOException;
import java.lang.reflect.Constructor;
import java.lang.reflect.Field;
import java.lang.reflect.Method;
import java.lang.reflect.Modifier;
import java.nio.charset.StandardCharsets;
import java.nio.file.Files;
import java.nio.file.Path;
import java.util.Set;
import java.util.TreeSet;

/** Holds the class against the face of the document and the rules of LANGUAGE.md that can be seen. */
public final class LanguageTest {
    private static final String[] FACE = {
        "int customer(int)", "int visit(int,int)", "int basket(int,int,int,int)", "int baskets()",
        "int lose(int,int)", "int find(int,int)", "int iron(int)", "int pass(int)", "int buy(int)", "int pay(int)",
        "int set(int,int)", "int type(char)", "int clearText()", "int fault()", "int undo()", "int keep()",
        "int restore()", "int customerOf(int,int)", "int basketOf(int,int)", "int lost(int,int)",
        "int ordered(int)", "int book(int,int)", "int count(int)", "float meanMinutes()",
        "int ifIroned(int,int,int)", "int bestOrder(int)", "int homeOn(int,int)", "int wanting()", "int sure()"};
    private static final Set<String> CONSTANTS = Set.of("UNKNOWN", "BAD_VALUE", "FULL", "NOT_POSSIBLE", "NONE");
    private static final String[] FORBIDDEN = {"->", "::", "import ", "package ", "synchronized", "assert ",
        "finally", "catch", "try ", "throw", "static {", "System.out", "Exact(", "hashCode", "toString",
        "System.nanoTime", "System.currentTimeMillis", "Random", "Thread", "@Override", "\" +", "+ \""};

    private static int wrong;

    public static void main(String[] args) throws IOException {
        face();
        nested();
        source();
        System.out.println("LanguageTest: " + wrong + " wrong");
        if (wrong != 0) {
            System.exit(1);
        }
    }

    private static void must(boolean holds, String what) {
        if (!holds) {
            wrong++;
            System.out.println(what);
        }
    }

    private static String signature(Method m) {
        StringBuilder text = new StringBuilder();
        text.append(m.getReturnType().getName()).append(' ').append(m.getName()).append('(');
        for (int i = 0; i < m.getParameterCount(); i++) {
            text.append(i == 0 ? "" : ",").append(m.getParameterTypes()[i].getName());
        }
        return text.append(')').toString();
    }

    private static void face() {
        Class<?> c = IroningBaskets.class;
        must(Modifier.isFinal(c.getModifiers()) && Modifier.isPublic(c.getModifiers()), "the class is public final");
        Set<String> methods = new TreeSet<>();
        Set<String> names = new TreeSet<>();
        for (Method m : c.getDeclaredMethods()) {
            if (!Modifier.isPrivate(m.getModifiers()) && !m.isSynthetic()) {
                methods.add(signature(m));
                names.add(m.getName());
                must(m.getModifiers() == Modifier.PUBLIC, m.getName() + " is public and no more");
            }
        }
        must(methods.equals(new TreeSet<>(Set.of(FACE))), "the methods are those of the face: " + methods);
        for (Class<?> any : withNested(c)) {
            for (Method m : any.getDeclaredMethods()) {
                must(any == c && Modifier.isPublic(m.getModifiers()) || !names.contains(m.getName()),
                        any.getName() + "." + m.getName() + " bears the name of a public one");
            }
        }
        for (Field f : c.getDeclaredFields()) {
            boolean open = Modifier.isPublic(f.getModifiers());
            must(open ? CONSTANTS.contains(f.getName()) : Modifier.isPrivate(f.getModifiers()), f.getName());
        }
        Constructor<?>[] made = c.getDeclaredConstructors();
        must(made.length == 1 && made[0].getModifiers() == Modifier.PUBLIC && made[0].getParameterCount() == 0,
                "there is one constructor");
    }

    private static Set<Class<?>> withNested(Class<?> c) {
        Set<Class<?>> all = new java.util.LinkedHashSet<>();
        all.add(c);
        all.addAll(Set.of(c.getDeclaredClasses()));
        return all;
    }

    private static void nested() {
        Set<Class<?>> all = withNested(IroningBaskets.class);
        must(all.size() <= 12, "some twelve classes, not " + all.size());
        for (Class<?> c : all) {
            int fields = 0;
            for (Field f : c.getDeclaredFields()) {
                if (Modifier.isStatic(f.getModifiers())) {
                    must(Modifier.isFinal(f.getModifiers()), c.getName() + "." + f.getName() + " is final");
                } else {
                    fields++;
                }
            }
            must(fields <= 20, c.getName() + " has " + fields + " fields");
            for (Method m : c.getDeclaredMethods()) {
                must(m.getParameterCount() <= 7, m.getName() + " takes at most seven parameters");
            }
        }
    }

    private static void source() throws IOException {
        String text = Files.readString(Path.of("src/main/java/IroningBaskets.java"), StandardCharsets.UTF_8);
        for (String sign : FORBIDDEN) {
            must(!text.contains(sign), "the source holds " + sign);
        }
        must(text.chars().allMatch(c -> c < 128), "the source holds ASCII alone");
        int start = 0;
        String[] lines = text.split("\n");
        for (int i = 0; i < lines.length; i++) {
            if (lines[i].matches(" {4}( {4})?[a-z].*\\) \\{")) {
                start = i;
            }
            must(i - start <= 60 || !lines[i].matches(" {4}( {4})?\\}"), "a long method ends in line " + (i + 1));
            if (lines[i].matches(" {4}( {4})?\\}")) {
                start = i + 1;
            }
        }
    }
}
