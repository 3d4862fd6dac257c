import java.io.IOException;
import java.lang.reflect.Method;
import java.lang.reflect.Modifier;
import java.nio.file.Files;
import java.nio.file.Path;
import java.util.Set;
import java.util.TreeSet;
import java.util.regex.Matcher;
import java.util.regex.Pattern;

/** README.md shows every call once at least, and each answers there what the class answers. */
public final class ReadmeTest {
    private static final Pattern CALL = Pattern.compile("house\\.(\\w+)\\(([^)]*)\\); *// (true|false|-?[0-9]+):");

    private ReadmeTest() {
    }

    public static void main(String[] args) throws IOException, ReflectiveOperationException {
        PanoramaHouse house = new PanoramaHouse();
        Set<String> shown = new TreeSet<>();
        int wrong = 0;
        for (String line : Files.readAllLines(Path.of("README.md"))) {
            if (!line.startsWith("house.")) {
                continue;
            }
            Matcher call = CALL.matcher(line);
            boolean holds = call.lookingAt() && answer(house, call.group(1), call.group(2)).equals(call.group(3));
            if (holds) {
                shown.add(call.group(1));
            } else {
                wrong++;
                System.out.println("not as the class answers: " + line);
            }
        }
        for (Method method : PanoramaHouse.class.getDeclaredMethods()) {
            if (Modifier.isPublic(method.getModifiers()) && !shown.contains(method.getName())) {
                wrong++;
                System.out.println("not shown: " + method.getName());
            }
        }
        System.out.println(wrong == 0 ? "README.md is as the class" : wrong + " things are not as due");
        if (wrong != 0) {
            System.exit(1);
        }
    }

    private static String answer(PanoramaHouse house, String name, String numbers) throws ReflectiveOperationException {
        String[] words = numbers.isEmpty() ? new String[0] : numbers.split(", *");
        Class<?>[] types = new Class<?>[words.length];
        Object[] values = new Object[words.length];
        for (int i = 0; i < words.length; i++) {
            types[i] = int.class;
            values[i] = Integer.decode(words[i]);
        }
        return PanoramaHouse.class.getMethod(name, types).invoke(house, values).toString();
    }
}
