import java.lang.reflect.Array;
import java.lang.reflect.Constructor;
import java.lang.reflect.Field;
import java.lang.reflect.Method;
import java.lang.reflect.Modifier;
import java.nio.charset.StandardCharsets;
import java.nio.file.Files;
import java.nio.file.Path;
import java.util.ArrayList;
import java.util.Arrays;
import java.util.IdentityHashMap;
import java.util.List;
import java.util.TreeSet;
import java.util.regex.Matcher;
import java.util.regex.Pattern;

/** The face of the document, and those rules of LANGUAGE.md that can be told from outside. */
public final class FaceTest {

    private static final String FACE = "feed/5 end/1 road/0 rule/0 force/1 person/2 thing/2 stage/1 day/0 drop/2 "
            + "take/2 give/3 rob/1 undo/0 ahead/3 comes/1 wealth/1 far/2 load/3 had/5 exchange/3 robbed/2 game/3 "
            + "pence/2 note/3 ruled/1 look/2 seed/1 thieves/4 count/1 image/1 back/1";

    private static final List<String> wrong = new ArrayList<>();

    public static void main(String[] args) throws Exception {
        face();
        nested();
        source();
        room();
        for (String each : wrong) {
            System.out.println(each);
        }
        if (!wrong.isEmpty()) {
            System.exit(1);
        }
        System.out.println("the face is as due");
    }

    private static void must(boolean so, String what) {
        if (!so) {
            wrong.add(what);
        }
    }

    private static void face() throws Exception {
        must(Modifier.isPublic(LoadRoad.class.getModifiers()) && Modifier.isFinal(LoadRoad.class.getModifiers()),
                "the class is public and final");
        TreeSet<String> found = new TreeSet<>();
        TreeSet<String> names = new TreeSet<>();
        for (Method method : LoadRoad.class.getDeclaredMethods()) {
            if (Modifier.isPublic(method.getModifiers())) {
                found.add(method.getName() + "/" + method.getParameterCount());
                names.add(method.getName());
                must(method.getReturnType() == int.class, method + " answers an int");
                for (Class<?> type : method.getParameterTypes()) {
                    must(type == int.class, method + " takes ints");
                }
            }
        }
        must(found.equals(new TreeSet<>(Arrays.asList(FACE.split(" ")))), "the public methods are " + found);
        for (Method method : LoadRoad.class.getDeclaredMethods()) {
            boolean open = Modifier.isPublic(method.getModifiers());
            must(open || Modifier.isPrivate(method.getModifiers()), method + " is private");
            must(open || !names.contains(method.getName()), method + " bears a public name");
        }
        for (Field field : LoadRoad.class.getDeclaredFields()) {
            must(Modifier.isPrivate(field.getModifiers()) || field.getName().equals("NONE"), field + " is private");
            must(!Modifier.isStatic(field.getModifiers()) || Modifier.isFinal(field.getModifiers()), field + " is final");
        }
        must(LoadRoad.class.getField("NONE").getInt(null) == -1, "NONE");
        Constructor<?>[] made = LoadRoad.class.getDeclaredConstructors();
        must(made.length == 1 && made[0].getParameterCount() == 0 && Modifier.isPublic(made[0].getModifiers()),
                "one public constructor");
    }

    private static void nested() {
        Class<?>[] all = LoadRoad.class.getDeclaredClasses();
        must(all.length <= 12, all.length + " classes inside");
        for (Class<?> one : all) {
            must(Modifier.isStatic(one.getModifiers()), one + " is static");
            must(!Modifier.isPublic(one.getModifiers()) && !Modifier.isProtected(one.getModifiers()), one + " is not open");
            int fields = 0;
            for (Field field : one.getDeclaredFields()) {
                boolean fixed = Modifier.isStatic(field.getModifiers());
                must(!fixed || Modifier.isFinal(field.getModifiers()), field + " is final");
                fields += fixed ? 0 : 1;
            }
            must(fields <= 20, one + " has " + fields + " fields");
            for (Method method : one.getDeclaredMethods()) {
                must(method.getParameterCount() <= 7, method + " takes at most seven");
            }
        }
    }

    private static void source() throws Exception {
        String text = Files.readString(Path.of("src/main/java/LoadRoad.java"), StandardCharsets.ISO_8859_1);
        String code = text.replaceAll("(?s)/\\*.*?\\*/", "").replaceAll("//[^\n]*", "");
        Matcher word = Pattern.compile("\\b(throw|throws|try|catch|synchronized|assert|package|static\\s*\\{|equals|"
                + "hashCode|toString|while\\s*\\(true\\))|->|::").matcher(code);
        while (word.find()) {
            wrong.add("the source has " + word.group());
        }
        Matcher imported = Pattern.compile("import ([^;]*);").matcher(code);
        while (imported.find()) {
            must(Arrays.asList("java.util.Arrays", "java.util.ArrayList", "java.util.List").contains(imported.group(1)),
                    "import " + imported.group(1));
        }
        for (char sign : text.toCharArray()) {
            must(sign < 128, "a sign above 127");
        }
        int since = 0;
        String[] lines = text.split("\n");
        for (int i = 0; i < lines.length; i++) {
            if (lines[i].matches(" {4}( {4})?[A-Za-z].*\\) \\{")) {
                since = i;
            } else if (lines[i].matches(" {4}( {4})?\\}")) {
                must(i - since < 60, "a method of " + (i - since) + " lines ends at line " + (i + 1));
                since = i;
            }
        }
    }

    /** All that is kept is made with the object; the calls of a run add nothing to it. */
    private static void room() throws Exception {
        LoadRoad x = new LoadRoad();
        IdentityHashMap<Object, Integer> first = new IdentityHashMap<>();
        long elements = keep(x, first);
        must(first.size() <= 600 && elements <= 10000, first.size() + " objects, " + elements + " fields and elements");
        callAll(x);
        IdentityHashMap<Object, Integer> then = new IdentityHashMap<>();
        keep(x, then);
        must(first.keySet().containsAll(then.keySet()), "a call has made an object that is kept");
        String text = Files.readString(Path.of("src/main/java/LoadRoad.java"), StandardCharsets.ISO_8859_1);
        String methods = text.replaceAll("(?m)^ {4,8}(private )?(static )?final .* = new .*;$", "")
                .replaceAll("(?sm)^( {4,8})(public )?(LoadRoad|Past)\\(\\) \\{.*?^\\1\\}$", "");
        must(!Pattern.compile("\\bnew \\w|clone\\(|copyOf").matcher(methods).find(), "no call makes an object");
    }

    /** A road of two people with three things and a rule in force, and every call of the face once. */
    private static void callAll(LoadRoad x) throws Exception {
        Bench.road(x, "road 2;stage 4;stage 9;person 3;person 5;thing 2 10;thing 5 4;thing 0 7;has 0 0");
        Bench.rule(x, "carry worth-weight if not [many>1 or load>6]");
        x.force(0);
        for (String each : FACE.split(" ")) {
            int many = each.charAt(each.length() - 1) - '0';
            Class<?>[] types = new Class<?>[many];
            Object[] numbers = new Object[many];
            for (int i = 0; i < many; i++) {
                types[i] = int.class;
                numbers[i] = i == 1 ? 1 : 0;
            }
            LoadRoad.class.getMethod(each.substring(0, each.indexOf('/')), types).invoke(x, numbers);
        }
        x.had(0, 0, 1, 2, 0);
        x.robbed(9, 1);
        x.thieves(3, 9, 50, 0);
        x.image(3);
        x.back(3);
    }

    /** What can be reached from an object: it is put into a map; how many fields and elements it has. */
    private static long keep(Object object, IdentityHashMap<Object, Integer> known) throws Exception {
        if (object == null || known.put(object, 1) != null) {
            return 0;
        }
        long many = 0;
        if (object.getClass().isArray()) {
            many = Array.getLength(object);
            for (int i = 0; i < Array.getLength(object) && !object.getClass().getComponentType().isPrimitive(); i++) {
                many += keep(Array.get(object, i), known);
            }
            return many;
        }
        for (Field field : object.getClass().getDeclaredFields()) {
            if (!Modifier.isStatic(field.getModifiers())) {
                field.setAccessible(true);
                many += 1 + (field.getType().isPrimitive() ? 0 : keep(field.get(object), known));
            }
        }
        return many;
    }
}
