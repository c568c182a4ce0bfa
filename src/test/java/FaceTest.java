import java.lang.reflect.Array;
import java.lang.reflect.Constructor;
import java.lang.reflect.Field;
import java.lang.reflect.Method;
import java.lang.reflect.Modifier;
import java.nio.charset.StandardCharsets;
import java.nio.file.Files;
import java.nio.file.Paths;
import java.util.Arrays;
import java.util.IdentityHashMap;
import java.util.Map;
import java.util.Set;
import java.util.TreeSet;
import java.util.regex.Matcher;
import java.util.regex.Pattern;

/**
 * The public face, and those rules of LANGUAGE.md that a look at the class and its source can
 * tell. The source's path is the one argument.
 */
public final class FaceTest {
    private static final String[] METHODS = {
        "write(int)", "wipe()", "fault()", "lay()", "guest(int,int)", "state(int,int)", "pass(int)",
        "book(int,int)", "call(int)", "change(int,int)", "undo()", "freed(int)", "task(int)",
        "early(int,int)", "done()", "deal(int)", "off(int)", "see(int,int)", "forget()", "orders(int)",
        "absent(int,int,int)", "season(int,int,int)", "keep()", "back()", "count(int)"};
    private static final String[] CONSTANTS = {"BAD", "NO", "FULL", "NONE"};
    private static final String[] RULED_OUT = {
        "import ", "package ", "->", "::", "try", "catch", "finally", "throw", "throws", "synchronized",
        "assert", "instanceof", "static \\{", "hashCode", "toString", "equals", "System\\.", "Random",
        "Thread", "double", "float", "protected", "Object"};

    private static final Checks checks = new Checks();

    public static void main(String[] args) throws Exception {
        Class<?> face = NextBellboy.class;
        checks.holds("public and final", Modifier.isPublic(face.getModifiers())
            && Modifier.isFinal(face.getModifiers()));
        methods(face);
        fields(face);
        constructors(face);
        inside(face);
        room();
        source(new String(Files.readAllBytes(Paths.get(args[0])), StandardCharsets.UTF_8));
        checks.close("FaceTest");
    }

    private static void methods(Class<?> face) {
        Set<String> found = new TreeSet<>();
        for (Method m : face.getDeclaredMethods()) {
            if (Modifier.isPrivate(m.getModifiers())) {
                continue;
            }
            checks.holds(m.getName() + " is public and answers an int", Modifier.isPublic(m.getModifiers())
                && !Modifier.isStatic(m.getModifiers()) && m.getReturnType() == int.class);
            StringBuilder told = new StringBuilder();
            for (Class<?> c : m.getParameterTypes()) {
                told.append(told.length() > 0 ? "," : "").append(c.getName());
            }
            found.add(m.getName() + "(" + told + ")");
        }
        Set<String> wanted = new TreeSet<>(Arrays.asList(METHODS));
        checks.holds("the methods are " + wanted + ", found " + found, wanted.equals(found));
    }

    private static void fields(Class<?> face) {
        Set<String> found = new TreeSet<>();
        for (Field f : face.getDeclaredFields()) {
            if (Modifier.isPrivate(f.getModifiers())) {
                continue;
            }
            checks.holds(f.getName() + " is a public constant", Modifier.isPublic(f.getModifiers())
                && Modifier.isStatic(f.getModifiers()) && Modifier.isFinal(f.getModifiers())
                && f.getType() == int.class);
            found.add(f.getName());
        }
        checks.holds("the constants", new TreeSet<>(Arrays.asList(CONSTANTS)).equals(found));
    }

    private static void constructors(Class<?> face) {
        Constructor<?>[] all = face.getDeclaredConstructors();
        checks.holds("one public constructor without parameters", all.length == 1
            && Modifier.isPublic(all[0].getModifiers()) && all[0].getParameterCount() == 0);
    }

    /** Rules 1, 2, 5 and 11 of the classes inside. */
    private static void inside(Class<?> face) {
        Set<String> names = new TreeSet<>();
        for (String m : METHODS) {
            names.add(m.substring(0, m.indexOf('(')));
        }
        Class<?>[] inner = face.getDeclaredClasses();
        checks.holds("twelve classes at most", inner.length < 12);
        for (Class<?> c : inner) {
            checks.holds(c + " is private and static", Modifier.isStatic(c.getModifiers())
                && Modifier.isPrivate(c.getModifiers()));
            for (Method m : c.getDeclaredMethods()) {
                checks.holds(c + "." + m.getName() + " bears no public name", !names.contains(m.getName()));
            }
            size(c);
        }
        for (Method m : face.getDeclaredMethods()) {
            checks.holds(m.getName() + " bears no public name",
                !Modifier.isPrivate(m.getModifiers()) || !names.contains(m.getName()));
        }
        size(face);
    }

    private static void size(Class<?> c) {
        int fields = 0;
        for (Field f : c.getDeclaredFields()) {
            boolean isStatic = Modifier.isStatic(f.getModifiers());
            fields += isStatic ? 0 : 1;
            checks.holds(c + "." + f.getName() + ": static fields are final",
                !isStatic || Modifier.isFinal(f.getModifiers()));
        }
        checks.holds(c + " has twenty fields at most", fields <= 20);
        for (Method m : c.getDeclaredMethods()) {
            checks.holds(m + " takes seven at most", m.getParameterCount() <= 7);
        }
    }

    /** What one object takes for all its calls, as none of them makes another. */
    private static void room() throws IllegalAccessException {
        Map<Object, Boolean> made = new IdentityHashMap<>();
        int places = walk(new NextBellboy(), made);
        checks.holds("few objects and arrays: " + made.size(), made.size() <= 200);
        checks.holds("few fields and elements: " + places, places <= 2000);
    }

    private static int walk(Object one, Map<Object, Boolean> made) throws IllegalAccessException {
        if (one == null || one instanceof String || made.put(one, true) != null) {
            return 0;
        }
        int places = 0;
        if (one.getClass().isArray()) {
            places = Array.getLength(one);
            int length = places;
            for (int i = 0; one instanceof Object[] && i < length; i++) {
                places += walk(((Object[]) one)[i], made);
            }
            return places;
        }
        for (Field f : one.getClass().getDeclaredFields()) {
            if (!Modifier.isStatic(f.getModifiers())) {
                f.setAccessible(true);
                places += 1 + (f.getType().isPrimitive() ? 0 : walk(f.get(one), made));
            }
        }
        return places;
    }

    private static void source(String text) {
        String code = text.replaceAll("(?s)/\\*.*?\\*/", "").replaceAll("//[^\n]*", "");
        for (String word : RULED_OUT) {
            String edge = Character.isLetter(word.charAt(0)) ? "\\b" : "";
            checks.holds("no " + word, !Pattern.compile(edge + word).matcher(code).find());
        }
        checks.holds("ASCII alone", text.chars().allMatch(c -> c == '\n' || c >= 32 && c < 127));
        // a method starts and ends with braces at its own depth, and has sixty lines at most
        Matcher m = Pattern.compile("(?m)^( {4}| {8})((?:private|public) [^=;\n]*\\([^\n]*)\\{$(?s)(.*?)^\\1\\}$")
            .matcher(text);
        int found = 0;
        while (m.find()) {
            if (m.group(2).contains(" class ")) {
                continue;
            }
            found++;
            checks.holds("sixty lines at most: " + m.group(2),
                m.group(3).chars().filter(c -> c == '\n').count() <= 60);
        }
        checks.holds("methods were found", found >= METHODS.length);
        // what is made is made in constructors, so that calls make nothing
        Matcher made = Pattern.compile("(?m)^.*\\bnew \\w.*$").matcher(code);
        while (made.find()) {
            checks.holds("made in a constructor: " + made.group().trim(),
                made.group().matches(" {8,12}((private final int\\[\\] |this\\.)?\\w+ = new .*)|.*rows\\[i\\] = new .*|.*rows = new .*"));
        }
    }
}
