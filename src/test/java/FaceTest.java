import java.lang.reflect.Constructor;
import java.lang.reflect.Field;
import java.lang.reflect.Method;
import java.lang.reflect.Modifier;
import java.nio.file.Files;
import java.nio.file.Path;
import java.util.ArrayList;
import java.util.HashSet;
import java.util.List;
import java.util.Set;
import java.util.TreeSet;
import java.util.regex.Matcher;
import java.util.regex.Pattern;

/** The public face is the document's, and the source keeps to what LANGUAGE.md leaves. */
public final class FaceTest {
    private static final String[] FACE = {
        "int many(int,int)", "int partner(int,int,int)", "int about(int,int,int)",
        "int stack(int,int,int)", "int box(int,long)", "int plain(int,int)",
        "int word(int,int,int)", "int clear(int,int)", "int add(int,int,int,long)",
        "int work(int,int,int,int)", "int sum(int,int)", "long term(int,int,int)",
        "int same(int,int)", "long closed(int,int)", "int halves(int,int)",
        "int half(int,int,int,int)", "int form(int,int,int,int)", "int free(int,int,int,int)",
        "int row(int)", "int cross(int)", "int back()", "int power(int)"
    };
    private static final String[] FORBIDDEN = {
        "\\bthrow\\b", "\\bthrows\\b", "\\btry\\b", "\\bcatch\\b", "\\bsynchronized\\b",
        "\\bassert\\b", "->", "::", "\\bimport\\b", "\\bpackage\\b", "Exact\\b", "\\bprotected\\b"
    };
    private static int wrong = 0;

    private static void check(boolean holds, String what) {
        if (!holds) {
            wrong++;
            System.out.println("not so: " + what);
        }
    }

    public static void main(String[] args) throws Exception {
        checkMethods();
        checkFields();
        checkInnerClasses();
        checkSource();
        System.out.println(wrong == 0 ? "the face is as due" : wrong + " faults of the face");
        if (wrong != 0) {
            System.exit(1);
        }
    }

    private static void checkMethods() {
        check(Modifier.isFinal(StrandBoxes.class.getModifiers()), "the class is final");
        Set<String> found = new TreeSet<>();
        Set<String> publicNames = new HashSet<>();
        for (Method m : StrandBoxes.class.getDeclaredMethods()) {
            if (Modifier.isPublic(m.getModifiers())) {
                publicNames.add(m.getName());
                found.add(signature(m));
            } else if (!m.isSynthetic()) {
                check(Modifier.isPrivate(m.getModifiers()), m + " is private");
            }
        }
        check(found.equals(new TreeSet<>(List.of(FACE))), "public methods are the document's");
        for (Method m : allMethods()) {
            check(Modifier.isPublic(m.getModifiers()) || !publicNames.contains(m.getName()),
                    m + " has a name of its own");
        }
        Constructor<?>[] makers = StrandBoxes.class.getDeclaredConstructors();
        check(makers.length == 1 && Modifier.isPublic(makers[0].getModifiers())
                && makers[0].getParameterCount() == 0, "one public constructor");
    }

    private static String signature(Method m) {
        List<String> types = new ArrayList<>();
        for (Class<?> type : m.getParameterTypes()) {
            types.add(type.getName());
        }
        return m.getReturnType().getName() + " " + m.getName() + "(" + String.join(",", types) + ")";
    }

    private static List<Method> allMethods() {
        List<Method> all = new ArrayList<>(List.of(StrandBoxes.class.getDeclaredMethods()));
        for (Class<?> inner : StrandBoxes.class.getDeclaredClasses()) {
            all.addAll(List.of(inner.getDeclaredMethods()));
        }
        return all;
    }

    private static void checkFields() throws Exception {
        Set<String> found = new TreeSet<>();
        for (Field f : StrandBoxes.class.getDeclaredFields()) {
            if (Modifier.isPublic(f.getModifiers())) {
                check(Modifier.isStatic(f.getModifiers()) && f.getType() == int.class, f + " is a constant");
                found.add(f.getName() + "=" + f.getInt(null));
            } else {
                check(Modifier.isPrivate(f.getModifiers()), f + " is private");
            }
        }
        check(found.equals(new TreeSet<>(List.of("BAD=-1", "NO=-2", "FULL=-3", "NONE=-4", "HIGH=-5"))),
                "public constants are the document's");
        List<Class<?>> classes = new ArrayList<>(List.of(StrandBoxes.class.getDeclaredClasses()));
        classes.add(StrandBoxes.class);
        for (Class<?> c : classes) {
            for (Field f : c.getDeclaredFields()) {
                if (Modifier.isStatic(f.getModifiers())) {
                    check(Modifier.isFinal(f.getModifiers()), f + " is final");
                }
            }
        }
    }

    private static void checkInnerClasses() {
        Class<?>[] inner = StrandBoxes.class.getDeclaredClasses();
        check(inner.length <= 12, "at most twelve classes");
        for (Class<?> c : inner) {
            check(Modifier.isStatic(c.getModifiers()), c + " is static");
            check(!Modifier.isPublic(c.getModifiers()), c + " is not public");
        }
        for (Method m : allMethods()) {
            check(m.getParameterCount() <= 7, m + " has at most seven parameters");
        }
    }

    private static void checkSource() throws Exception {
        String source = Files.readString(Path.of("src/main/java/StrandBoxes.java"));
        String code = source.replaceAll("(?s)/\\*.*?\\*/", "").replaceAll("//[^\n]*", "");
        for (String word : FORBIDDEN) {
            Matcher found = Pattern.compile(word).matcher(code);
            check(!found.find(), "the source is without " + word);
        }
    }
}
