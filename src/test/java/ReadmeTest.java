import java.io.IOException;
import java.lang.reflect.Method;
import java.lang.reflect.Modifier;
import java.nio.charset.StandardCharsets;
import java.nio.file.Files;
import java.nio.file.Paths;
import java.util.List;
import java.util.regex.Matcher;
import java.util.regex.Pattern;

/** README.md: each row of its example answers as it says, and every call and constant of the face is told of. */
public final class ReadmeTest {
    private static final Check CHECK = new Check("ReadmeTest");
    private static final Pattern CALL = Pattern.compile("x\\.(\\w+)\\(([^;]*)\\); +// (NO|-?\\d+)(: .*)?");

    public static void main(String[] args) throws IOException, ReflectiveOperationException {
        List<String> lines = Files.readAllLines(Paths.get("README.md"), StandardCharsets.UTF_8);
        example(lines);
        face(String.join("\n", lines));
        CHECK.end();
    }

    private static void example(List<String> lines) throws ReflectiveOperationException {
        RepairGroups x = null;
        int calls = 0;
        boolean isJava = false;
        for (String line : lines) {
            if (line.startsWith("```")) {
                isJava = line.equals("```java");
            } else if (isJava && line.equals("RepairGroups x = new RepairGroups();")) {
                x = new RepairGroups();
            } else if (isJava) {
                Matcher call = CALL.matcher(line);
                CHECK.yes("a call and its answer: " + line, call.matches());
                String answer = call.group(3);
                CHECK.due(line, answered(x, call.group(1), call.group(2)), answer.equals("NO") ? RepairGroups.NO : Long.parseLong(answer));
                calls++;
            }
        }
        CHECK.yes("there is an example", calls > 0);
    }

    private static long answered(RepairGroups x, String name, String told) throws ReflectiveOperationException {
        String[] words = told.isEmpty() ? new String[0] : told.split(", ");
        for (Method method : RepairGroups.class.getMethods()) {
            if (!method.getName().equals(name) || method.getParameterCount() != words.length) {
                continue;
            }
            Object[] arguments = new Object[words.length];
            for (int i = 0; i < words.length; i++) {
                int n = words[i].matches("'.'") ? words[i].charAt(1) : Integer.parseInt(words[i]);
                if (method.getParameterTypes()[i] == long.class) {
                    arguments[i] = (long) n;
                } else {
                    arguments[i] = n;
                }
            }
            return ((Number) method.invoke(x, arguments)).longValue();
        }
        throw new NoSuchMethodException(name);
    }

    private static void face(String text) {
        for (Method method : RepairGroups.class.getDeclaredMethods()) {
            if (Modifier.isPublic(method.getModifiers())) {
                CHECK.yes(method.getName() + " is told of", text.contains("`" + method.getName() + "`"));
            }
        }
        for (String name : new String[] {"NONE", "BAD", "STATE", "FULL", "NO"}) {
            CHECK.yes(name + " is told of", text.contains("`" + name + "`"));
        }
        CHECK.yes("for how many calls", text.contains("512 calls"));
        CHECK.yes("how its tests are run", text.contains("bash .ci/run"));
    }
}
