import java.io.IOException;
import java.lang.reflect.Array;
import java.lang.reflect.Field;
import java.lang.reflect.Modifier;
import java.nio.file.Files;
import java.nio.file.Path;
import java.util.Collections;
import java.util.IdentityHashMap;
import java.util.Random;
import java.util.Set;
import java.util.regex.Matcher;
import java.util.regex.Pattern;

/** All that one object needs is made with it, and stays as small as README.md says; no call makes an object. */
public final class RoomTests {
    private static final int MOST_OBJECTS = 120, MOST_NUMBERS = 19000;
    private static final Pattern CONSTRUCTOR = Pattern.compile("    public FallingGains\\(\\) \\{\n.*?\n    \\}\n", Pattern.DOTALL);
    private static final Pattern FIELD = Pattern.compile("        final [\\w\\[\\]]+ \\w+ = new [^\n]*\n");
    // Each of these makes an object, as do texts and lists, of which the class has none.
    private static final Pattern MAKES = Pattern.compile("\\bnew\\b|\\bclone\\b|\\bcopyOf|\"|\\bString|\\bInteger [a-z]|List\\b|= *\\{");
    private static int wrong;

    private static void fault(String text) {
        wrong++;
        System.out.println(text);
    }

    private static final class Room {
        final Set<Object> objects = Collections.newSetFromMap(new IdentityHashMap<>());
        long numbers;

        void enter(Object one) throws IllegalAccessException {
            if (one == null || !objects.add(one)) return;
            if (one.getClass().isArray()) enterArray(one);
            else enterFields(one);
        }

        private void enterArray(Object row) throws IllegalAccessException {
            numbers += Array.getLength(row);
            if (row.getClass().getComponentType().isPrimitive()) return;
            for (int i = 0; i < Array.getLength(row); i++) enter(Array.get(row, i));
        }

        private void enterFields(Object one) throws IllegalAccessException {
            for (Field field : one.getClass().getDeclaredFields()) {
                if (Modifier.isStatic(field.getModifiers())) continue;
                numbers++;
                field.setAccessible(true);
                if (!field.getType().isPrimitive()) enter(field.get(one));
            }
        }
    }

    private static Room roomOf(Object one) throws IllegalAccessException {
        Room room = new Room();
        room.enter(one);
        return room;
    }

    private static void use(FallingGains x) {
        x.things(10);
        for (int kind = 0; kind < 5; kind++) x.worth(kind);
        for (int w = x.sum(); w >= 0 && w < 11; w = x.beyond(w, w)) x.part(w, 5);
        Random random = new Random(1);
        for (int i = 0; i < 40; i++) {
            x.sheet(i % 4, i % 3, 1100 - i % 2);
            x.read(0, i % 4);
            x.line(1, i % 10, (i + 1) % 10, i);
            x.spot(2, i, i);
            x.row(3, i % 10, random.nextInt(9), random.nextInt(9), random.nextInt(9), random.nextInt(9));
            x.rise(4, -i);
            x.falls(i % 12);
            x.all(i % 12, 3);
            x.bend(i % 12, 0, 0);
            x.mix(i % 12, 1, 1);
            x.order(i % 10, 9);
            x.greed(i % 12, 10);
        }
    }

    private static void kept() throws IllegalAccessException {
        FallingGains x = new FallingGains();
        Room first = roomOf(x);
        System.out.println("one object: " + first.objects.size() + " objects, " + first.numbers + " fields and elements");
        if (first.objects.size() > MOST_OBJECTS || first.numbers > MOST_NUMBERS) fault("more than README.md says");
        use(x);
        Room last = roomOf(x);
        if (!last.objects.equals(first.objects) || last.numbers != first.numbers) fault("a call made an object and kept it");
    }

    private static void made(Path file) throws IOException {
        String code = Files.readString(file).replaceAll("(?s)/\\*.*?\\*/", "").replaceAll("//[^\n]*", "");
        if (!CONSTRUCTOR.matcher(code).find()) fault("the constructor is not found");
        String calls = FIELD.matcher(CONSTRUCTOR.matcher(code).replaceFirst("")).replaceAll("");
        Matcher makes = MAKES.matcher(calls);
        while (makes.find()) fault("a call makes an object: " + lineAround(calls, makes.start()));
    }

    private static String lineAround(String text, int place) {
        int end = text.indexOf('\n', place);
        return text.substring(text.lastIndexOf('\n', place) + 1, end < 0 ? text.length() : end).trim();
    }

    public static void main(String[] args) throws IOException, IllegalAccessException {
        kept();
        if (args.length == 0) fault("the project's folder is not told");
        else made(Path.of(args[0], "src", "main", "java", "FallingGains.java"));
        System.out.println("the room: " + wrong + " faults");
        if (wrong != 0) System.exit(1);
    }
}
