import java.io.IOException;
import java.lang.reflect.Constructor;
import java.lang.reflect.Field;
import java.lang.reflect.Method;
import java.lang.reflect.Modifier;
import java.nio.file.Files;
import java.nio.file.Path;
import java.util.Set;
import java.util.TreeSet;

/** The document's face and no more, and the rules of LANGUAGE.md that the source's words show. */
public final class FaceTest {
    private static final Set<String> FACE = Set.of(
        "boolean mark(int, int, int, int)", "int line(int, int, int, int, int, int)", "int stands(int, int, int, int)",
        "int colour(int, int)", "int from(int, int)", "int seam(int)", "int gang(int)", "int put(int, int)", "int day()",
        "int square(int, int)", "int least(int, int, int)", "int feed(int, int, int, int, int)", "int hall(int)",
        "int fault()", "int week(int, int, int)", "int hallOf(int, int)", "boolean room(int)", "int minute(int)",
        "int crowd(int)", "int count(int)");
    private static final String[] BARRED = {
        "throw", "throws", "try", "catch", "synchronized", "assert", "import", "package", "->", "::",
        "System.out", "Math[.]\\w+Exact", "hashCode", "toString",
    };

    private static int wrong = 0;

    private static void check(boolean holds, String what) {
        if (!holds) {
            wrong++;
            System.out.println("not as due: " + what);
        }
    }

    public static void main(String[] args) throws IOException {
        face();
        nestedClasses();
        words();
        System.out.println(wrong == 0 ? "the face is as due" : wrong + " things are not as due");
        if (wrong != 0) {
            System.exit(1);
        }
    }

    private static void face() {
        Class<?> c = PanoramaHouse.class;
        check(Modifier.isPublic(c.getModifiers()) && Modifier.isFinal(c.getModifiers()), "public final class");
        Set<String> found = new TreeSet<>();
        Set<String> names = new TreeSet<>();
        for (Method m : c.getDeclaredMethods()) {
            if (!Modifier.isPrivate(m.getModifiers())) {
                check(Modifier.isPublic(m.getModifiers()) && !Modifier.isStatic(m.getModifiers()), m.toString());
                found.add(signature(m));
                names.add(m.getName());
            }
        }
        check(found.equals(FACE), "the methods " + found);
        for (Method m : c.getDeclaredMethods()) {
            check(Modifier.isPublic(m.getModifiers()) || !names.contains(m.getName()), "a private method named as a public one: " + m);
        }
        for (Field f : c.getDeclaredFields()) {
            check(Modifier.isPrivate(f.getModifiers()) || f.getName().equals("NONE"), "a field that isn't private: " + f);
            check(!Modifier.isStatic(f.getModifiers()) || Modifier.isFinal(f.getModifiers()), "a static field that isn't final: " + f);
        }
        Constructor<?>[] made = c.getDeclaredConstructors();
        check(made.length == 1 && made[0].getParameterCount() == 0 && Modifier.isPublic(made[0].getModifiers()), "one public constructor");
        check(PanoramaHouse.NONE == -1, "NONE");
    }

    private static String signature(Method m) {
        StringBuilder text = new StringBuilder(m.getReturnType() + " " + m.getName() + "(");
        for (Class<?> p : m.getParameterTypes()) {
            text.append(text.charAt(text.length() - 1) == '(' ? "" : ", ").append(p);
        }
        return text.append(')').toString();
    }

    private static void nestedClasses() {
        Class<?>[] nested = PanoramaHouse.class.getDeclaredClasses();
        check(nested.length <= 11, "at most some twelve classes");
        for (Class<?> n : nested) {
            check(Modifier.isStatic(n.getModifiers()) && !Modifier.isPublic(n.getModifiers()), n.toString());
            int fields = 0;
            for (Field f : n.getDeclaredFields()) {
                fields += Modifier.isStatic(f.getModifiers()) ? 0 : 1;
            }
            check(fields <= 20, n + " has " + fields + " fields");
            for (Method m : n.getDeclaredMethods()) {
                check(m.getParameterCount() <= 7, m.toString());
            }
        }
    }

    private static void words() throws IOException {
        String source = Files.readString(Path.of("src/main/java/PanoramaHouse.java"));
        String code = source.replaceAll("(?s)/\\*.*?\\*/", " ").replaceAll("//[^\n]*", " ");
        for (String word : BARRED) {
            boolean letters = Character.isLetter(word.charAt(0));
            String pattern = letters ? "(?s).*\\b" + word + "\\b.*" : "(?s).*" + word + ".*";
            check(!code.matches(pattern), "the source has " + word);
        }
    }
}
