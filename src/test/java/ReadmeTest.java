import java.lang.reflect.Method;
import java.lang.reflect.Modifier;
import java.nio.charset.StandardCharsets;
import java.nio.file.Files;
import java.nio.file.Path;
import java.util.regex.Matcher;
import java.util.regex.Pattern;

/** Whether README.md's calls answer what it says, and whether it names every call of the face. */
public final class ReadmeTest {

    private static final Pattern EXAMPLE = Pattern.compile("(?s)```java\\n(.*?)```");
    private static final Pattern CALL = Pattern.compile("x\\.(\\w+)\\((.*?)\\);\\s*// (-?\\d+)(:.*)?");

    private static int asked = 0;
    private static int wrong = 0;

    public static void main(String[] args) throws Exception {
        String text = Files.readString(Path.of("README.md"), StandardCharsets.UTF_8);
        Matcher example = EXAMPLE.matcher(text);
        while (example.find()) {
            run(example.group(1));
        }
        must(asked > 0, "there is an example");
        String outside = text.replaceAll("(?s)```java.*?```", "");
        for (Method method : LoadRoad.class.getDeclaredMethods()) {
            if (Modifier.isPublic(method.getModifiers())) {
                must(outside.contains("`" + method.getName() + "`"), "README.md names " + method.getName());
            }
        }
        if (wrong != 0) {
            System.exit(1);
        }
        System.out.println(asked + " calls of README.md answer what it says");
    }

    private static void must(boolean so, String what) {
        if (!so) {
            wrong++;
            System.out.println("not so: " + what);
        }
    }

    private static void run(String example) throws Exception {
        LoadRoad x = null;
        for (String line : example.split("\\n")) {
            Matcher call = CALL.matcher(line);
            if (line.equals("LoadRoad x = new LoadRoad();")) {
                x = new LoadRoad();
            } else if (call.matches()) {
                int got = answer(x, call.group(1), call.group(2));
                must(got == Integer.parseInt(call.group(3)), line.trim() + " (answered " + got + ")");
                asked++;
            } else {
                must(line.isBlank(), "a call with its answer: " + line);
            }
        }
    }

    private static int answer(LoadRoad x, String name, String list) throws Exception {
        String[] parts = list.isBlank() ? new String[0] : list.split(",\\s*");
        Class<?>[] types = new Class<?>[parts.length];
        Object[] numbers = new Object[parts.length];
        for (int i = 0; i < parts.length; i++) {
            types[i] = int.class;
            numbers[i] = Long.decode(parts[i]).intValue();
        }
        return (Integer) LoadRoad.class.getMethod(name, types).invoke(x, numbers);
    }
}
