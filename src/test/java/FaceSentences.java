import java.lang.reflect.Constructor;
import java.lang.reflect.Field;
import java.lang.reflect.Method;
import java.lang.reflect.Modifier;
import java.util.Arrays;
import java.util.List;
import java.util.Set;
import java.util.TreeSet;
import java.util.regex.Matcher;
import java.util.regex.Pattern;

/** The public face, the promises' headings and the calls' sections, held against the class as it is. */
final class FaceSentences extends Sentences {
    private final Quotes quotes;
    private final String source;

    FaceSentences(Checks checks, Quotes quotes, String source) {
        super(checks, quotes);
        this.quotes = quotes;
        this.source = source;
    }

    @Override
    void run() {
        theClass();
        theConstants();
        theConstructor();
        theMethods();
        theHeadings();
        theSections();
        allCallsAreTried();
    }

    private void theClass() {
        says("face", "public final class NextBellboy {");
        int flags = NextBellboy.class.getModifiers();
        holds("public and final", Modifier.isPublic(flags) && Modifier.isFinal(flags));
        same("its name", NextBellboy.class.getName(), "NextBellboy");
        holds("no class above it, nothing implemented", NextBellboy.class.getSuperclass() == Object.class
            && NextBellboy.class.getInterfaces().length == 0);
    }

    private void theConstants() {
        List<String> told = quotes.each("face", "public static final int ", ";");
        due("one line of constants", told.size(), 1);
        says("face", "public static final int " + told.get(0) + ";");
        Set<String> found = new TreeSet<>();
        for (Field f : NextBellboy.class.getDeclaredFields()) {
            if (!Modifier.isPrivate(f.getModifiers())) {
                holds(f + " is a public constant", Modifier.isPublic(f.getModifiers())
                    && Modifier.isStatic(f.getModifiers()) && Modifier.isFinal(f.getModifiers())
                    && f.getType() == int.class);
                found.add(f.getName() + " = " + valueOf(f));
            }
        }
        same("the constants", found.toString(), new TreeSet<>(Arrays.asList(told.get(0).split(", "))).toString());
    }

    private static int valueOf(Field f) {
        try {
            return f.getInt(null);
        } catch (IllegalAccessException e) {
            throw new AssertionError(e);
        }
    }

    private void theConstructor() {
        says("face", "public NextBellboy();");
        Constructor<?>[] all = NextBellboy.class.getDeclaredConstructors();
        due("how many", all.length, 1);
        holds("public, without parameters", Modifier.isPublic(all[0].getModifiers())
            && all[0].getParameterCount() == 0 && all[0].getExceptionTypes().length == 0);
    }

    private void theMethods() {
        List<String> told = quotes.each("face", "public int ", ";");
        Set<String> want = new TreeSet<>();
        for (String one : told) {
            says("face", "public int " + one + ";");
            want.add(one.replaceAll("(int) \\w+", "$1").replace(" ", ""));
            holds("it stands so in the source", source.contains("\n    public int " + one + " {\n"));
        }
        Set<String> found = new TreeSet<>();
        for (Method m : NextBellboy.class.getDeclaredMethods()) {
            if (!Modifier.isPrivate(m.getModifiers())) {
                holds(m + " is public and answers an int", Modifier.isPublic(m.getModifiers())
                    && !Modifier.isStatic(m.getModifiers()) && m.getReturnType() == int.class
                    && m.getExceptionTypes().length == 0);
                found.add(m.getName() + Arrays.toString(m.getParameterTypes())
                    .replace("[", "(").replace("]", ")").replace(" ", ""));
            }
        }
        same("all methods", found.toString(), want.toString());
        says("face", "}");
        due("the promises tell the constructor and all methods", told.size() + 1, Quotes.PROMISES);
    }

    private void theHeadings() {
        List<String> told = quotes.each("face", "public int ", ";");
        says("H1", "## Promise 1: A new object `NextBellboy()");
        new NextBellboy();
        for (int p = 2; p <= Quotes.PROMISES; p++) {
            String one = told.get(p - 2);
            String name = one.substring(0, one.indexOf('('));
            says("H" + p, "## Promise " + p + ": " + name + " `int " + one);
            due("there is a call of that name, tried by all tests", named(name), 1);
        }
    }

    private static int named(String name) {
        int many = 0;
        for (FaceCall call : FaceCall.ALL) {
            many += call.name.equals(name) ? 1 : 0;
        }
        return many;
    }

    /** The source tells its calls in the document's sections, each behind its line. */
    private void theSections() {
        Matcher told = Pattern.compile("Ahead of the calls ([^:]*) the interface says: (---- [^.]*)\\.")
            .matcher(quotes.at("calls"));
        StringBuilder want = new StringBuilder();
        while (told.find()) {
            says("calls", told.group());
            holds("it stands in the source", source.contains("\n    // " + told.group(2) + "\n"));
            want.append(told.group(2)).append(": ").append(told.group(1).replace("`", "")).append('\n');
        }
        StringBuilder got = new StringBuilder();
        Matcher line = Pattern.compile("(?m)^    (?:// (----.*)|public int (\\w+)\\(.*)$").matcher(source);
        boolean isFirst = false;
        while (line.find()) {
            if (line.group(1) != null) {
                got.append(got.length() > 0 ? "\n" : "").append(line.group(1)).append(": ");
                isFirst = true;
            } else {
                got.append(isFirst ? "" : ", ").append(line.group(2));
                isFirst = false;
            }
        }
        same("which calls behind which line", got + "\n", want.toString());
    }

    private void allCallsAreTried() {
        says("face", "public int write(int letter);");
        due("calls that all tests try", FaceCall.ALL.length, Quotes.PROMISES - 1);
        for (FaceCall call : FaceCall.ALL) {
            Method found = null;
            for (Method m : NextBellboy.class.getDeclaredMethods()) {
                found = m.getName().equals(call.name) ? m : found;
            }
            holds(call.name + " is one, with as many numbers", found != null
                && found.getParameterCount() == call.many());
        }
    }
}
