import java.io.IOException;
import java.lang.reflect.Constructor;
import java.lang.reflect.Field;
import java.lang.reflect.Method;
import java.lang.reflect.Modifier;
import java.nio.file.Files;
import java.nio.file.Path;
import java.util.HashSet;
import java.util.Map;
import java.util.Set;
import java.util.TreeMap;
import java.util.TreeSet;
import java.util.regex.Matcher;
import java.util.regex.Pattern;

/** The public face is the document's and no more, and the source has nothing that LANGUAGE.md rules out by its look. */
public final class FaceTests {
    private static final Pattern FACE = Pattern.compile("## The public face\\s+```java\n(.*?)```", Pattern.DOTALL);
    private static final Pattern CONSTANT = Pattern.compile("([A-Z]+) = (-?\\d+)");
    private static final Pattern METHOD = Pattern.compile("public (\\w+) (\\w+)\\((.*)\\);");
    private static final int CONSTANTS_IN_ALL = 6, METHODS_IN_ALL = 39;
    private static final String[] RULED_OUT = {
        "\\bthrow\\b", "\\bthrows\\b", "\\btry\\b", "\\bcatch\\b", "\\bsynchronized\\b", "\\bassert\\b", "->", "::",
        "\\w+Exact\\b", "\\bpackage\\b", "\\bimport\\b", "\\bSystem\\.(?!arraycopy)", "\\bstatic\\s*\\{", "\\bThread\\b",
        "\\bRandom\\b", "\\bprotected\\b", "\\bfinalize\\b", "\\bhashCode\\b", "\\btoString\\b",
    };
    private static final Map<String, Integer> CONSTANTS = new TreeMap<>();
    private static final Set<String> METHODS = new TreeSet<>();
    private static int wrong;

    private static void fault(String text) {
        wrong++;
        System.out.println(text);
    }

    /** The face as the document writes it; of the parameters the types alone, as their names are free. */
    private static void readFace(Path document) throws IOException {
        Matcher face = FACE.matcher(Files.readString(document));
        if (!face.find()) {
            fault("the document's face is not found");
            return;
        }
        Matcher constant = CONSTANT.matcher(face.group(1));
        while (constant.find()) CONSTANTS.put(constant.group(1), Integer.valueOf(constant.group(2)));
        Matcher method = METHOD.matcher(face.group(1));
        while (method.find()) {
            String types = method.group(3).replaceAll(" \\w+(, |$)", "$1").replace(" ", "");
            METHODS.add(method.group(1) + " " + method.group(2) + "(" + types + ")");
        }
        if (CONSTANTS.size() != CONSTANTS_IN_ALL || METHODS.size() != METHODS_IN_ALL) fault("the document's face is not understood");
    }

    private static void face() throws IllegalAccessException {
        if (FallingGains.class.getModifiers() != (Modifier.PUBLIC | Modifier.FINAL)) fault("the class is not public and final alone");
        if (FallingGains.class.getSuperclass() != Object.class || FallingGains.class.getInterfaces().length != 0) {
            fault("the class is of another one");
        }
        methods();
        constants();
        Constructor<?>[] made = FallingGains.class.getDeclaredConstructors();
        if (made.length != 1 || !Modifier.isPublic(made[0].getModifiers()) || made[0].getParameterCount() != 0) {
            fault("the constructor is not the document's alone");
        }
    }

    private static void methods() {
        Set<String> missing = new TreeSet<>(METHODS);
        for (Method method : FallingGains.class.getDeclaredMethods()) {
            if (Modifier.isPrivate(method.getModifiers())) continue;
            String text = method.toString().replace("public ", "").replace("FallingGains.", "");
            if (!missing.remove(text)) fault("not of the face: " + method);
        }
        for (String text : missing) fault("not there: " + text);
    }

    private static void constants() throws IllegalAccessException {
        Set<String> missing = new TreeSet<>(CONSTANTS.keySet());
        for (Field field : FallingGains.class.getDeclaredFields()) {
            if (Modifier.isPrivate(field.getModifiers())) continue;
            boolean constant = field.toString().equals("public static final int FallingGains." + field.getName());
            if (!constant || !missing.remove(field.getName())) fault("not of the face: " + field);
            else if (field.getInt(null) != CONSTANTS.get(field.getName())) fault("not its number: " + field);
        }
        for (String name : missing) fault("not there: " + name);
    }

    private static void namesInside() {
        Set<String> taken = new HashSet<>();
        for (String method : METHODS) taken.add(method.substring(method.indexOf(' ') + 1, method.indexOf('(')));
        for (Method method : FallingGains.class.getDeclaredMethods()) {
            if (Modifier.isPrivate(method.getModifiers()) && taken.contains(method.getName())) fault("bears a public name: " + method);
        }
        for (Class<?> inside : FallingGains.class.getDeclaredClasses()) {
            int is = inside.getModifiers();
            if (!Modifier.isStatic(is)) fault("not static: " + inside);
            if (Modifier.isPublic(is) || Modifier.isProtected(is)) fault("not of the face: " + inside);
            for (Method method : inside.getDeclaredMethods()) {
                if (taken.contains(method.getName())) fault("bears a public name: " + method);
            }
        }
        if (FallingGains.class.getDeclaredClasses().length > 12) fault("more than twelve classes");
    }

    /** No state beside that of the objects, and nothing larger than LANGUAGE.md lets it be. */
    private static void sizes(Class<?> one) {
        int fields = 0;
        for (Field field : one.getDeclaredFields()) {
            boolean constant = field.getType().isPrimitive() || field.getType() == String.class;
            if (!Modifier.isStatic(field.getModifiers())) fields++;
            else if (!Modifier.isFinal(field.getModifiers()) || !constant) fault("static state: " + field);
        }
        if (fields > 20) fault("more than twenty fields: " + one);
        for (Method method : one.getDeclaredMethods()) {
            if (method.getParameterCount() > 7) fault("more than seven parameters: " + method);
        }
        for (Class<?> inside : one.getDeclaredClasses()) sizes(inside);
    }

    private static void source(Path file) throws IOException {
        String text = Files.readString(file);
        String code = text.replaceAll("(?s)/\\*.*?\\*/", "").replaceAll("//[^\n]*", "");
        for (String pattern : RULED_OUT) {
            Matcher found = Pattern.compile(pattern).matcher(code);
            if (found.find()) fault("ruled out: " + found.group());
        }
    }

    public static void main(String[] args) throws IOException, IllegalAccessException {
        if (args.length == 0) {
            fault("the project's folder is not told");
        } else {
            readFace(Path.of(args[0], "..", "shared", "DOC.md"));
            face();
            namesInside();
            sizes(FallingGains.class);
            source(Path.of(args[0], "src", "main", "java", "FallingGains.java"));
        }
        System.out.println("the face: " + METHODS.size() + " methods, " + wrong + " faults");
        if (wrong != 0) System.exit(1);
    }
}
