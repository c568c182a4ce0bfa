import java.io.File;
import java.lang.reflect.Array;
import java.lang.reflect.Field;
import java.lang.reflect.Method;
import java.lang.reflect.Modifier;
import java.nio.charset.StandardCharsets;
import java.nio.file.Files;
import java.nio.file.Paths;
import java.util.ArrayList;
import java.util.Arrays;
import java.util.HashSet;
import java.util.IdentityHashMap;
import java.util.LinkedHashMap;
import java.util.List;
import java.util.Map;
import java.util.Set;
import java.util.TreeSet;
import java.util.regex.Matcher;
import java.util.regex.Pattern;

/**
 * The rules of ../shared/LANGUAGE.md by their numbers, as far as the source and what javac makes
 * of it can tell them. The source's path is the first argument.
 */
public final class LanguageTest {
    private static final String FACE = "NextBellboy";

    /** What of rule 4 the program may call; more of what stands there would have to be put here. */
    private static final Set<String> LIBRARY = new HashSet<>(Arrays.asList("java/lang/Object.<init> ()V",
        "java/lang/String.length ()I", "java/lang/String.charAt (I)C", "java/lang/Math.max (II)I",
        "java/lang/Math.min (II)I"));

    private static final Checks checks = new Checks();
    private static final List<ClassFile> classes = new ArrayList<>();
    private static final Map<String, ClassFile.Body> bodies = new LinkedHashMap<>();

    public static void main(String[] args) throws Exception {
        String source = new String(Files.readAllBytes(Paths.get(args[0])), StandardCharsets.UTF_8);
        String code = source.replaceAll("(?s)/\\*.*?\\*/", "").replaceAll("//[^\n]*", "");
        readClasses();
        rule1Members(code);
        rule2ClassesInside(code);
        rule3Types(source);
        rule4Library(code);
        rule5StaticState(code);
        rule6Exceptions(code);
        rule8NoRecursion();
        rule9LoopsEnd(code);
        rule10NoJoining();
        rule11Sizes();
        rule12NothingIsMadeByCalls();
        room();
        checks.close("LanguageTest");
    }

    private static void readClasses() throws Exception {
        File home = new File(NextBellboy.class.getResource(FACE + ".class").toURI()).getParentFile();
        for (File file : home.listFiles()) {
            if (file.getName().matches(FACE + "(\\$.*)?\\.class")) {
                ClassFile one = new ClassFile(Files.readAllBytes(file.toPath()));
                classes.add(one);
                for (ClassFile.Body body : one.bodies) {
                    bodies.put(one.name + "." + body.name + " " + body.type, body);
                }
            }
        }
        checks.holds("the classes were found", classes.size() == NextBellboy.class.getDeclaredClasses().length + 1);
        checks.holds("their methods were found", bodies.size() > 25);
    }

    private static boolean isOwn(String name) {
        return name.equals(FACE) || name.startsWith(FACE + "$");
    }

    private static void rule1Members(String code) {
        checks.holds("1: no package line", !code.contains("package "));
        Set<String> names = new TreeSet<>();
        for (Method m : NextBellboy.class.getDeclaredMethods()) {
            checks.holds("1: public or private: " + m, Modifier.isPublic(m.getModifiers())
                || Modifier.isPrivate(m.getModifiers()));
            if (Modifier.isPublic(m.getModifiers())) {
                names.add(m.getName());
            }
        }
        for (Map.Entry<String, ClassFile.Body> one : bodies.entrySet()) {
            boolean isPublic = Modifier.isPublic(one.getValue().flags);
            checks.holds("1: no public name: " + one.getKey(), isPublic || !names.contains(one.getValue().name));
            checks.holds("1: public in the face alone: " + one.getKey(),
                !isPublic || one.getKey().startsWith(FACE + "."));
        }
    }

    private static void rule2ClassesInside(String code) {
        for (Class<?> c : NextBellboy.class.getDeclaredClasses()) {
            checks.holds("2: static, not public: " + c, Modifier.isStatic(c.getModifiers())
                && !Modifier.isPublic(c.getModifiers()) && !Modifier.isProtected(c.getModifiers()));
            checks.holds("2: no class of the library above it: " + c, c.getSuperclass() == Object.class);
        }
        checks.holds("2: no lambda, no method reference", !code.contains("->") && !code.contains("::"));
    }

    private static void rule3Types(String source) {
        for (ClassFile one : classes) {
            for (String type : one.fieldTypes) {
                isAType(one.name, type);
            }
            for (ClassFile.Body body : one.bodies) {
                Matcher types = Pattern.compile("\\[*(?:[A-Z](?<!L)|L[^;]+;)").matcher(body.type);
                while (types.find()) {
                    isAType(one.name + "." + body.name, types.group());
                }
            }
        }
        checks.holds("3: ASCII alone", source.chars().allMatch(c -> c == '\n' || c >= 32 && c < 127));
    }

    private static void isAType(String where, String type) {
        boolean so = type.matches("V|\\[{0,2}[IJSBCZ]|Ljava/lang/String;")
            || type.matches("\\[?L" + FACE + "(\\$\\w+)?;");
        checks.holds("3: " + type + " in " + where, so);
    }

    private static void rule4Library(String code) {
        checks.holds("4: nothing is imported", !Pattern.compile("\\bimport\\b").matcher(code).find());
        for (Map.Entry<String, ClassFile.Body> one : bodies.entrySet()) {
            for (String named : one.getValue().names) {
                if (named.contains("(") && named.contains(".")) {
                    boolean own = isOwn(named.substring(0, named.indexOf('.')));
                    checks.holds("4: " + named + " in " + one.getKey(), own || LIBRARY.contains(named));
                }
            }
        }
    }

    private static void rule5StaticState(String code) {
        List<Class<?>> all = new ArrayList<>(Arrays.asList(NextBellboy.class.getDeclaredClasses()));
        all.add(NextBellboy.class);
        for (Class<?> c : all) {
            for (Field f : c.getDeclaredFields()) {
                if (Modifier.isStatic(f.getModifiers())) {
                    checks.holds("5: final: " + f, Modifier.isFinal(f.getModifiers()));
                    checks.holds("5: of a kind that may be static: " + f, f.getType().isPrimitive()
                        || f.getType() == String.class || f.getType() == int[].class);
                }
            }
        }
        checks.holds("5: no static initialiser", !Pattern.compile("\\bstatic\\s*\\{").matcher(code).find());
        for (Map.Entry<String, ClassFile.Body> one : bodies.entrySet()) {
            checks.holds("5: sets nothing static: " + one.getKey(), one.getValue().name.equals("<clinit>")
                || !one.getValue().codes.contains(ClassFile.PUTSTATIC));
        }
    }

    private static void rule6Exceptions(String code) {
        for (Map.Entry<String, ClassFile.Body> one : bodies.entrySet()) {
            checks.holds("6: throws nothing: " + one.getKey(), !one.getValue().codes.contains(ClassFile.ATHROW));
            checks.holds("6: catches nothing: " + one.getKey(), one.getValue().handlers == 0);
            checks.holds("6: casts nothing: " + one.getKey(), !one.getValue().codes.contains(ClassFile.CHECKCAST));
            checks.holds("6: nothing synchronized: " + one.getKey(),
                !one.getValue().codes.contains(ClassFile.MONITORENTER)
                && !Modifier.isSynchronized(one.getValue().flags));
            checks.holds("6: not one of Object's: " + one.getKey(),
                !one.getValue().name.matches("equals|hashCode|toString|finalize|clone"));
        }
        checks.holds("6: no assert", !Pattern.compile("\\bassert\\b").matcher(code).find());
    }

    private static List<String> calledBy(ClassFile.Body body) {
        List<String> called = new ArrayList<>();
        for (String named : body.names) {
            if (bodies.containsKey(named)) {
                called.add(named);
            }
        }
        return called;
    }

    /** How many calls stand open at most from this one on; a hundred and more if it comes back to itself. */
    private static int depth(String method, int open) {
        int deepest = 0;
        if (open < 100) {
            for (String called : calledBy(bodies.get(method))) {
                deepest = Math.max(deepest, depth(called, open + 1));
            }
        }
        return deepest + 1;
    }

    private static void rule8NoRecursion() {
        int deepest = 0;
        for (String method : bodies.keySet()) {
            int depth = depth(method, 0);
            deepest = Math.max(deepest, depth);
            checks.holds("8 and 11: at most eight deep, not " + depth + ": " + method, depth <= 8);
        }
        checks.holds("8: calls were found", deepest > 2);
    }

    /** Each loop's head bounds a counter; that the counter goes on is for the reader to see. */
    private static void rule9LoopsEnd(String code) {
        Matcher loop = Pattern.compile("\\b(for|while) \\(([^\n]*)\\) \\{\n").matcher(code);
        int found = 0;
        while (loop.find()) {
            found++;
            checks.holds("9: a bound in " + loop.group(), loop.group(2).matches(".*[<>].*"));
        }
        Matcher heads = Pattern.compile("\\b(for|while|do)\\b").matcher(code);
        int all = 0;
        while (heads.find()) {
            all++;
        }
        checks.holds("9: all loops were found, " + found + " of " + all, found == all && found > 0);
    }

    private static void rule10NoJoining() {
        for (Map.Entry<String, ClassFile.Body> one : bodies.entrySet()) {
            checks.holds("10: no joining by +, no lambda: " + one.getKey(),
                !one.getValue().codes.contains(ClassFile.INVOKEDYNAMIC));
        }
    }

    private static void rule11Sizes() {
        checks.holds("11: twelve classes at most", classes.size() <= 12);
        for (Map.Entry<String, ClassFile.Body> one : bodies.entrySet()) {
            checks.holds("11: sixty lines at most: " + one.getKey(), one.getValue().name.equals("<clinit>")
                || one.getValue().lines <= 60);
        }
        List<Class<?>> all = new ArrayList<>(Arrays.asList(NextBellboy.class.getDeclaredClasses()));
        all.add(NextBellboy.class);
        for (Class<?> c : all) {
            int fields = 0;
            for (Field f : c.getDeclaredFields()) {
                fields += Modifier.isStatic(f.getModifiers()) ? 0 : 1;
            }
            checks.holds("11: twenty fields at most: " + c, fields <= 20);
            for (Method m : c.getDeclaredMethods()) {
                checks.holds("11: seven parameters at most: " + m, m.getParameterCount() <= 7);
            }
        }
    }

    private static void rule12NothingIsMadeByCalls() {
        for (Map.Entry<String, ClassFile.Body> one : bodies.entrySet()) {
            List<Integer> codes = one.getValue().codes;
            boolean makes = codes.contains(ClassFile.NEW) || codes.contains(ClassFile.NEWARRAY)
                || codes.contains(ClassFile.ANEWARRAY) || codes.contains(ClassFile.MULTIANEWARRAY);
            checks.holds("12: made in constructors alone: " + one.getKey(), !makes
                || one.getValue().name.equals("<init>") || one.getValue().name.equals("<clinit>"));
        }
    }

    /** What one object takes for all its calls, as none of them makes another. */
    private static void room() throws IllegalAccessException {
        Map<Object, Boolean> made = new IdentityHashMap<>();
        int places = walk(new NextBellboy(), made);
        checks.holds("few objects and arrays: " + made.size(), made.size() <= 200);
        checks.holds("few fields and elements: " + places, places <= 2000);
    }

    private static int walk(Object one, Map<Object, Boolean> made) throws IllegalAccessException {
        if (one == null || one instanceof String || made.put(one, true) != null) {
            return 0;
        }
        int places = 0;
        if (one.getClass().isArray()) {
            places = Array.getLength(one);
            int length = places;
            for (int i = 0; one instanceof Object[] && i < length; i++) {
                places += walk(((Object[]) one)[i], made);
            }
            return places;
        }
        for (Field f : one.getClass().getDeclaredFields()) {
            if (!Modifier.isStatic(f.getModifiers())) {
                f.setAccessible(true);
                places += 1 + (f.getType().isPrimitive() ? 0 : walk(f.get(one), made));
            }
        }
        return places;
    }
}
