import java.io.IOException;
import java.lang.reflect.Constructor;
import java.lang.reflect.Field;
import java.lang.reflect.Member;
import java.lang.reflect.Method;
import java.lang.reflect.Modifier;
import java.nio.file.Files;
import java.nio.file.Path;
import java.util.Arrays;
import java.util.List;
import java.util.Set;
import java.util.TreeSet;
import java.util.stream.Collectors;

/** The public face is that of the document, and the class keeps to what LANGUAGE.md says of its members. */
public final class FaceTest {
    private static final List<String> FACE = List.of(
            "public static final int NONE",
            "public TideLodger()",
            "public int feed(int, int, int, int, int)",
            "public int street(int) throws IllegalArgumentException",
            "public int law(int) throws IllegalArgumentException",
            "public int work(int) throws IllegalArgumentException",
            "public int stains(int) throws IllegalArgumentException",
            "public int fault()",
            "public int undo()",
            "public int told(int) throws IllegalArgumentException",
            "public int house(int, int) throws NoSuchElementException, IllegalArgumentException",
            "public int thing(int, int) throws NoSuchElementException, IllegalArgumentException",
            "public int height(int) throws IllegalArgumentException",
            "public int find(int, int) throws NoSuchElementException, IllegalArgumentException",
            "public int due(int) throws NoSuchElementException",
            "public int would(int, int, int, int, int, int) throws IllegalArgumentException",
            "public int ahead(int, int) throws IllegalArgumentException",
            "public int comes(int) throws NoSuchElementException",
            "public int spring(int) throws IllegalArgumentException",
            "public int carry(int, int, int) throws IllegalArgumentException",
            "public int rent(int, int) throws IllegalArgumentException",
            "public int bags(int, int) throws IllegalArgumentException",
            "public int parlour(int, int, int) throws IllegalArgumentException",
            "public int in(int) throws IllegalArgumentException",
            "public int board(int) throws IllegalArgumentException",
            "public int drift(int, int, int) throws NoSuchElementException, IllegalArgumentException",
            "public int whence(int, int, int) throws NoSuchElementException, IllegalArgumentException",
            "public int gain(int, int, int) throws NoSuchElementException, IllegalArgumentException",
            "public int share(int, int, int) throws NoSuchElementException, IllegalArgumentException",
            "public int soaked(int, int) throws NoSuchElementException, IllegalArgumentException",
            "public int snaps(int) throws NoSuchElementException",
            "public int fullest(int) throws IllegalArgumentException",
            "public int pays(int, int) throws NoSuchElementException, IllegalArgumentException",
            "public int neap(int) throws IllegalArgumentException",
            "public int loads(int, int) throws NoSuchElementException, IllegalArgumentException",
            "public int dearest(int) throws IllegalArgumentException",
            "public int dry(int, int) throws IllegalArgumentException",
            "public int year(int, int, int, int, int) throws IllegalArgumentException",
            "public int span(int, int, int, int, int, int, int) throws IllegalArgumentException",
            "public int image()",
            "public int restore()",
            "public int status(int)",
            "public int count(int)");

    private static final List<String> IMPORTS = List.of("java.util.NoSuchElementException;", "java.util.ArrayList;",
            "java.util.List;", "java.util.Arrays;", "java.util.Iterator;");

    private static int wrong;

    private FaceTest() { }

    private static void must(boolean good, String what) {
        if (!good) {
            wrong++;
            System.out.println("not so: " + what);
        }
    }

    private static String plain(Class<?>[] classes) {
        return Arrays.stream(classes).map(Class::getSimpleName).collect(Collectors.joining(", "));
    }

    private static String told(Member m) {
        String head = Modifier.toString(m.getModifiers()) + " ";
        if (m instanceof Field f) {
            return head + f.getType().getSimpleName() + " " + f.getName();
        }
        if (m instanceof Method e) {
            String thrown = e.getExceptionTypes().length == 0 ? "" : " throws " + plain(e.getExceptionTypes());
            return head + e.getReturnType().getSimpleName() + " " + e.getName() + "(" + plain(e.getParameterTypes()) + ")"
                    + thrown;
        }
        Constructor<?> c = (Constructor<?>) m;
        return head + "TideLodger(" + plain(c.getParameterTypes()) + ")";
    }

    private static void take(Set<String> found, Member[] members) {
        for (Member m : members) {
            if (!Modifier.isPrivate(m.getModifiers())) {
                found.add(told(m));
            }
        }
    }

    private static void lookInside(Class<?> c, Set<String> publicNames) {
        must(Modifier.isStatic(c.getModifiers()), c + " is static");
        must(!Modifier.isPublic(c.getModifiers()) && !Modifier.isProtected(c.getModifiers()), c + " is not public");
        for (Method m : c.getDeclaredMethods()) {
            must(!publicNames.contains(m.getName()), m + " has a name of its own");
            must(m.getParameterCount() <= 7, m + " has few parameters");
        }
        lookAtFields(c);
    }

    private static void lookAtFields(Class<?> c) {
        int own = 0;
        for (Field f : c.getDeclaredFields()) {
            own += Modifier.isStatic(f.getModifiers()) ? 0 : 1;
            must(!Modifier.isStatic(f.getModifiers()) || Modifier.isFinal(f.getModifiers()), f + " is final");
        }
        must(own <= 20, c + " has at most twenty fields");
    }

    private static void lookAtSource() throws IOException {
        String source = Files.readString(Path.of("src/main/java/TideLodger.java"));
        must(source.chars().allMatch(c -> c < 128), "the source holds ASCII alone");
        for (String banned : List.of("::", "finally", "synchronized", "assert ", "package ", "static {", "hashCode",
                "Exact(", "ArrayIndexOutOfBounds", "NullPointer", "ClassCast", "NegativeArraySize", "ArrayStore",
                "System.currentTimeMillis", "System.nanoTime", "System.out", "Random")) {
            must(!source.contains(banned), "the source is without '" + banned + "'");
        }
        for (String line : source.lines().filter(line -> line.startsWith("import ")).toList()) {
            must(IMPORTS.contains(line.substring(7)), "an import that LANGUAGE.md names: " + line);
        }
        must(source.lines().noneMatch(line -> line.contains("\" +") || line.contains("+ \"")), "no texts joined by +");
    }

    public static void main(String[] args) throws IOException {
        Check.watch();
        Class<?> c = TideLodger.class;
        must(Modifier.isFinal(c.getModifiers()) && Modifier.isPublic(c.getModifiers()), "public and final");
        must(TideLodger.NONE == -1, "NONE is -1");
        Set<String> found = new TreeSet<>();
        take(found, c.getDeclaredFields());
        take(found, c.getDeclaredConstructors());
        take(found, c.getDeclaredMethods());
        Set<String> due = new TreeSet<>(FACE);
        must(found.equals(due), "the face is " + due + ", found is " + found);
        Set<String> publicNames = Arrays.stream(c.getMethods()).filter(m -> m.getDeclaringClass() == c)
                .map(Method::getName).collect(Collectors.toSet());
        for (Method m : c.getDeclaredMethods()) {
            must(Modifier.isPublic(m.getModifiers()) || !publicNames.contains(m.getName()), m + " has a name of its own");
        }
        lookAtFields(c);
        must(c.getDeclaredClasses().length <= 11, "at most twelve classes");
        for (Class<?> inner : c.getDeclaredClasses()) {
            lookInside(inner, publicNames);
        }
        lookAtSource();
        System.out.println("FaceTest: " + wrong + " wrong");
        System.exit(wrong == 0 ? 0 : 1);
    }
}
