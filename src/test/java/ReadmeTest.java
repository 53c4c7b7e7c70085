import java.io.IOException;
import java.lang.reflect.InvocationTargetException;
import java.lang.reflect.Method;
import java.lang.reflect.Modifier;
import java.nio.file.Files;
import java.nio.file.Path;
import java.util.Arrays;
import java.util.Set;
import java.util.TreeSet;
import java.util.regex.Matcher;
import java.util.regex.Pattern;

/** What README.md shows: the answers of its example, and that its table tells each method. */
public final class ReadmeTest {
    private static final Checks CHECKS = new Checks();
    private static final Pattern CALL = Pattern.compile("yard\\.(\\w+)\\(([^)]*)\\);(?: +// (-?\\d+))?");
    private static final Pattern WRITE_EACH = Pattern.compile("for \\(char c : \"(.*)\"\\.toCharArray\\(\\)\\) \\{");
    private static final Pattern TOLD = Pattern.compile("`(\\w+)\\(([\\w, ]*)\\)`");

    private ReadmeTest() {
    }

    public static void main(String[] args) throws IOException, ReflectiveOperationException {
        String readme = Files.readString(Path.of("README.md"));
        example(readme);
        tableTellsEachMethod(readme);
        CHECKS.close();
    }

    private static void example(String readme) throws ReflectiveOperationException {
        ShuntYard yard = new ShuntYard();
        int answers = 0;
        for (String line : readme.split("```")[1].split("\n")) {
            Matcher each = WRITE_EACH.matcher(line);
            Matcher call = CALL.matcher(line);
            if (each.find()) {
                each.group(1).chars().forEach(yard::write);
            } else if (call.find() && !call.group(2).equals("c")) {
                int got = answer(yard, call.group(1), call.group(2));
                if (call.group(3) != null) {
                    answers++;
                    CHECKS.due(line, got, Integer.parseInt(call.group(3)));
                }
            }
        }
        CHECKS.dueTrue("the example has answers: " + answers, answers >= 7);
    }

    private static int answer(ShuntYard yard, String name, String arguments) throws ReflectiveOperationException {
        String[] parts = arguments.isEmpty() ? new String[0] : arguments.split(", ");
        Object[] values = new Object[parts.length];
        Class<?>[] types = new Class<?>[parts.length];
        for (int i = 0; i < parts.length; i++) {
            values[i] = parts[i].startsWith("'") ? parts[i].charAt(1) : Integer.parseInt(parts[i]);
            types[i] = int.class;
        }
        try {
            return (int) ShuntYard.class.getMethod(name, types).invoke(yard, values);
        } catch (InvocationTargetException thrown) {
            CHECKS.dueTrue(name + " threw " + thrown.getCause(), false);
            return 0;
        }
    }

    private static void tableTellsEachMethod(String readme) {
        Set<String> face = new TreeSet<>();
        for (Method method : ShuntYard.class.getDeclaredMethods()) {
            if (Modifier.isPublic(method.getModifiers())) {
                face.add(method.getName() + " " + method.getParameterCount());
            }
        }
        Set<String> told = new TreeSet<>();
        Matcher call = TOLD.matcher(readme);
        while (call.find()) {
            long parameters = Arrays.stream(call.group(2).split(", ")).filter(name -> !name.isEmpty()).count();
            told.add(call.group(1) + " " + parameters);
        }
        CHECKS.dueTrue("told is " + told + ", the face has " + face, told.equals(face));
    }
}
