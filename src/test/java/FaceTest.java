import java.lang.reflect.Constructor;
import java.lang.reflect.Field;
import java.lang.reflect.Method;
import java.lang.reflect.Modifier;
import java.nio.charset.StandardCharsets;
import java.nio.file.Files;
import java.nio.file.Path;
import java.util.ArrayList;
import java.util.Arrays;
import java.util.List;
import java.util.TreeSet;
import java.util.regex.Matcher;
import java.util.regex.Pattern;

/** The face of the document, and those rules of LANGUAGE.md that can be told from outside. */
public final class FaceTest {

    private static final String FACE = "feed/5 end/1 road/0 rule/0 force/1 person/2 thing/2 stage/1 day/0 drop/2 "
            + "take/2 give/3 rob/1 undo/0 ahead/3 comes/1 wealth/1 far/2 load/3 had/5 exchange/3 robbed/2 game/3 "
            + "pence/2 note/3 ruled/1 look/2 seed/1 thieves/4 count/1 image/1 back/1";

    private static final List<String> wrong = new ArrayList<>();

    public static void main(String[] args) throws Exception {
        face();
        nested();
        source();
        for (String each : wrong) {
            System.out.println(each);
        }
        if (!wrong.isEmpty()) {
            System.exit(1);
        }
        System.out.println("the face is as due");
    }

    private static void must(boolean so, String what) {
        if (!so) {
            wrong.add(what);
        }
    }

    private static void face() throws Exception {
        must(Modifier.isPublic(LoadRoad.class.getModifiers()) && Modifier.isFinal(LoadRoad.class.getModifiers()),
                "the class is public and final");
        TreeSet<String> found = new TreeSet<>();
        TreeSet<String> names = new TreeSet<>();
        for (Method method : LoadRoad.class.getDeclaredMethods()) {
            if (Modifier.isPublic(method.getModifiers())) {
                found.add(method.getName() + "/" + method.getParameterCount());
                names.add(method.getName());
                must(method.getReturnType() == int.class, method + " answers an int");
                for (Class<?> type : method.getParameterTypes()) {
                    must(type == int.class, method + " takes ints");
                }
            }
        }
        must(found.equals(new TreeSet<>(Arrays.asList(FACE.split(" ")))), "the public methods are " + found);
        for (Method method : LoadRoad.class.getDeclaredMethods()) {
            boolean open = Modifier.isPublic(method.getModifiers());
            must(open || Modifier.isPrivate(method.getModifiers()), method + " is private");
            must(open || !names.contains(method.getName()), method + " bears a public name");
        }
        for (Field field : LoadRoad.class.getDeclaredFields()) {
            must(Modifier.isPrivate(field.getModifiers()) || field.getName().equals("NONE"), field + " is private");
            must(!Modifier.isStatic(field.getModifiers()) || Modifier.isFinal(field.getModifiers()), field + " is final");
        }
        must(LoadRoad.class.getField("NONE").getInt(null) == -1, "NONE");
        Constructor<?>[] made = LoadRoad.class.getDeclaredConstructors();
        must(made.length == 1 && made[0].getParameterCount() == 0 && Modifier.isPublic(made[0].getModifiers()),
                "one public constructor");
    }

    private static void nested() {
        Class<?>[] all = LoadRoad.class.getDeclaredClasses();
        must(all.length <= 12, all.length + " classes inside");
        for (Class<?> one : all) {
            must(Modifier.isStatic(one.getModifiers()), one + " is static");
            must(!Modifier.isPublic(one.getModifiers()) && !Modifier.isProtected(one.getModifiers()), one + " is not open");
            int fields = 0;
            for (Field field : one.getDeclaredFields()) {
                boolean fixed = Modifier.isStatic(field.getModifiers());
                must(!fixed || Modifier.isFinal(field.getModifiers()), field + " is final");
                fields += fixed ? 0 : 1;
            }
            must(fields <= 20, one + " has " + fields + " fields");
            for (Method method : one.getDeclaredMethods()) {
                must(method.getParameterCount() <= 7, method + " takes at most seven");
            }
        }
    }

    private static void source() throws Exception {
        String text = Files.readString(Path.of("src/main/java/LoadRoad.java"), StandardCharsets.ISO_8859_1);
        String code = text.replaceAll("(?s)/\\*.*?\\*/", "").replaceAll("//[^\n]*", "");
        Matcher word = Pattern.compile("\\b(throw|throws|try|catch|synchronized|assert|package|static\\s*\\{|equals|"
                + "hashCode|toString|while\\s*\\(true\\))|->|::").matcher(code);
        while (word.find()) {
            wrong.add("the source has " + word.group());
        }
        Matcher imported = Pattern.compile("import ([^;]*);").matcher(code);
        while (imported.find()) {
            must(Arrays.asList("java.util.Arrays", "java.util.ArrayList", "java.util.List").contains(imported.group(1)),
                    "import " + imported.group(1));
        }
        for (char sign : text.toCharArray()) {
            must(sign < 128, "a sign above 127");
        }
        int since = 0;
        String[] lines = text.split("\n");
        for (int i = 0; i < lines.length; i++) {
            if (lines[i].matches(" {4}( {4})?[A-Za-z].*\\) \\{")) {
                since = i;
            } else if (lines[i].matches(" {4}( {4})?\\}")) {
                must(i - since < 60, "a method of " + (i - since) + " lines ends at line " + (i + 1));
                since = i;
            }
        }
    }
}
