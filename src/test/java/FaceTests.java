import java.io.IOException;
import java.lang.reflect.Constructor;
import java.lang.reflect.Field;
import java.lang.reflect.Method;
import java.lang.reflect.Modifier;
import java.nio.file.Files;
import java.nio.file.Path;
import java.util.HashSet;
import java.util.Set;
import java.util.TreeSet;
import java.util.regex.Matcher;
import java.util.regex.Pattern;

/** The public face is the document's and no more, and the source has nothing that LANGUAGE.md rules out by its look. */
public final class FaceTests {
    private static final String[] METHODS = {
        "int things(int)", "int sheet(int,int,int)", "int tear(int)", "long put(int,int,int,long)", "long at(int,int)",
        "int worth(int)", "int sum()", "int part(int,int)", "int beyond(int,int)", "int kind(int)", "int count(int,int)",
        "int tell(int,int,int)", "int read(int,int)", "int line(int,int,int,int)", "int spot(int,int,int)",
        "int row(int,int,int,int,int,int)", "int rise(int,int)", "int add(int,int,int)", "int price(int,int,int)",
        "int code()", "long value(int,int)", "long adds(int,int,int)", "int falls(int)", "int why(int,int)",
        "long least(int)", "int all(int,int)", "int one(int,int)", "long level(int,int)", "int bends(int)",
        "long bend(int,int,int)", "int order(int,int)", "int corner(int)", "int mix(int,int,int)", "long share(int,long)",
        "long shareOf(int)", "int in(int)", "int proves(int)", "int greed(int,int)", "long best(int,int)",
    };
    private static final Set<String> CONSTANTS = Set.of("NONE", "UNKNOWN", "OUTSIDE", "NOT", "FULL", "LARGE");
    private static final String[] RULED_OUT = {
        "\\bthrow\\b", "\\bthrows\\b", "\\btry\\b", "\\bcatch\\b", "\\bsynchronized\\b", "\\bassert\\b", "->", "::",
        "\\w+Exact\\b", "\\bpackage\\b", "\\bimport\\b", "\\bSystem\\.(?!arraycopy)", "\\bstatic\\s*\\{", "\\bThread\\b",
        "\\bRandom\\b", "\\bprotected\\b", "\\bfinalize\\b", "\\bhashCode\\b", "\\btoString\\b",
    };
    private static int wrong;

    private static void fault(String text) {
        wrong++;
        System.out.println(text);
    }

    private static void face() {
        if (!Modifier.isPublic(FallingGains.class.getModifiers()) || !Modifier.isFinal(FallingGains.class.getModifiers())) {
            fault("the class is not public and final");
        }
        Set<String> missing = new TreeSet<>(Set.of(METHODS));
        for (Method method : FallingGains.class.getDeclaredMethods()) {
            if (Modifier.isPrivate(method.getModifiers())) continue;
            String text = method.toString().replace("public ", "").replace("FallingGains.", "");
            if (!missing.remove(text)) fault("not of the face: " + method);
        }
        for (String text : missing) fault("not there: " + text);
        for (Field field : FallingGains.class.getDeclaredFields()) {
            int is = field.getModifiers();
            boolean constant = Modifier.isPublic(is) && Modifier.isStatic(is) && Modifier.isFinal(is) && field.getType() == int.class;
            if (CONSTANTS.contains(field.getName()) != constant || !constant && !Modifier.isPrivate(is)) fault("field: " + field);
        }
        Constructor<?>[] made = FallingGains.class.getDeclaredConstructors();
        if (made.length != 1 || !Modifier.isPublic(made[0].getModifiers()) || made[0].getParameterCount() != 0) {
            fault("the constructor is not the document's alone");
        }
    }

    private static void namesInside() {
        Set<String> taken = new HashSet<>();
        for (String method : METHODS) taken.add(method.substring(method.indexOf(' ') + 1, method.indexOf('(')));
        for (Method method : FallingGains.class.getDeclaredMethods()) {
            if (Modifier.isPrivate(method.getModifiers()) && taken.contains(method.getName())) fault("bears a public name: " + method);
        }
        for (Class<?> inside : FallingGains.class.getDeclaredClasses()) {
            if (!Modifier.isStatic(inside.getModifiers())) fault("not static: " + inside);
            for (Method method : inside.getDeclaredMethods()) {
                if (taken.contains(method.getName())) fault("bears a public name: " + method);
            }
        }
        if (FallingGains.class.getDeclaredClasses().length > 12) fault("more than twelve classes");
    }

    /** No state beside that of the objects, and nothing larger than LANGUAGE.md lets it be. */
    private static void sizes(Class<?> one) {
        int fields = 0;
        for (Field field : one.getDeclaredFields()) {
            boolean constant = field.getType().isPrimitive() || field.getType() == String.class;
            if (!Modifier.isStatic(field.getModifiers())) fields++;
            else if (!Modifier.isFinal(field.getModifiers()) || !constant) fault("static state: " + field);
        }
        if (fields > 20) fault("more than twenty fields: " + one);
        for (Method method : one.getDeclaredMethods()) {
            if (method.getParameterCount() > 7) fault("more than seven parameters: " + method);
        }
        for (Class<?> inside : one.getDeclaredClasses()) sizes(inside);
    }

    private static void source(Path file) throws IOException {
        String text = Files.readString(file);
        String code = text.replaceAll("(?s)/\\*.*?\\*/", "").replaceAll("//[^\n]*", "");
        for (String pattern : RULED_OUT) {
            Matcher found = Pattern.compile(pattern).matcher(code);
            if (found.find()) fault("ruled out: " + found.group());
        }
    }

    public static void main(String[] args) throws IOException {
        face();
        namesInside();
        sizes(FallingGains.class);
        if (args.length == 0) fault("the project's folder is not told");
        else source(Path.of(args[0], "src", "main", "java", "FallingGains.java"));
        System.out.println("the face: " + wrong + " faults");
        if (wrong != 0) System.exit(1);
    }
}
