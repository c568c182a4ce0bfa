import java.io.File;
import java.io.IOException;
import java.nio.charset.StandardCharsets;
import java.nio.file.Files;
import java.nio.file.Paths;
import java.util.Set;
import java.util.TreeSet;
import java.util.regex.Matcher;
import java.util.regex.Pattern;

/**
 * README.md: its examples answer what it says, and the calls, values and tests that it names are
 * those that there are. The document's path is the second argument, the README's the third.
 */
public final class ReadmeTest {
    private static final Checks checks = new Checks();

    public static void main(String[] args) throws Exception {
        String page = read(args[2]);
        examples(page);
        calls(page, read(args[1]));
        answersBelow0(page);
        itemsOfAText(page);
        tests(page, new File(args[2]).getAbsoluteFile().getParentFile());
        checks.close("ReadmeTest");
    }

    private static String read(String path) throws IOException {
        return new String(Files.readAllBytes(Paths.get(path)), StandardCharsets.UTF_8);
    }

    /** Runs the lines of each example as they stand. */
    private static void examples(String page) {
        Matcher blocks = Pattern.compile("(?s)```java\n(.*?)```").matcher(page);
        int found = 0;
        while (blocks.find()) {
            NextBellboy hotel = null;
            String text = "";
            for (String line : blocks.group(1).split("\n")) {
                Matcher told = Pattern.compile("String text = \"(.*)\";").matcher(line);
                Matcher call = Pattern.compile("hotel\\.(\\w+)\\((.*)\\); +// (-?\\d+)\\b.*").matcher(line);
                if (line.equals("NextBellboy hotel = new NextBellboy();")) {
                    hotel = new NextBellboy();
                } else if (told.matches()) {
                    text = told.group(1);
                } else if (line.equals("for (int i = 0; i < text.length(); i++) hotel.write(text.charAt(i));")) {
                    Hotels.put(hotel, text);
                } else if (call.matches() && hotel != null) {
                    found++;
                    checks.due(line, answer(hotel, call.group(1), call.group(2)), Integer.parseInt(call.group(3)));
                } else {
                    checks.holds("can't be run: " + line, false);
                }
            }
        }
        checks.holds("examples were found", found > 10);
    }

    private static int answer(NextBellboy hotel, String name, String told) {
        String[] parts = told.isEmpty() ? new String[0] : told.split(", ");
        int[] numbers = new int[parts.length];
        for (int i = 0; i < parts.length; i++) {
            numbers[i] = parts[i].startsWith("'") ? parts[i].charAt(1) : Integer.parseInt(parts[i]);
        }
        for (FaceCall call : FaceCall.ALL) {
            if (call.name.equals(name) && call.many() == numbers.length) {
                return call.on(hotel, numbers);
            }
        }
        throw new AssertionError("no such call: " + name + " with " + told);
    }

    /** The table has a row for each call of the document's face, with its numbers by their names, in its order. */
    private static void calls(String page, String doc) {
        StringBuilder want = new StringBuilder();
        Matcher face = Pattern.compile("public int (\\w+)\\((.*)\\);").matcher(doc);
        while (face.find()) {
            want.append(face.group(1)).append('(').append(face.group(2).replace("int ", "")).append(") ");
        }
        StringBuilder got = new StringBuilder();
        Matcher rows = Pattern.compile("(?m)^\\| `(\\w+\\([^)]*\\))` \\|").matcher(page);
        while (rows.find()) {
            got.append(rows.group(1)).append(' ');
        }
        checks.holds("calls: " + got + " for " + want, got.toString().contentEquals(want) && got.length() > 0);
    }

    private static void answersBelow0(String page) {
        int[] values = {NextBellboy.BAD, NextBellboy.NO, NextBellboy.FULL, NextBellboy.NONE};
        String[] names = {"BAD", "NO", "FULL", "NONE"};
        for (int i = 0; i < values.length; i++) {
            checks.holds(names[i] + " with its value", page.contains("\n| `" + names[i] + "` | " + values[i] + " | "));
        }
    }

    private static void itemsOfAText(String page) {
        checks.holds("a guest's item", page.contains("\n| `gK,H,N,T,P;` | "));
        checks.holds("a room's item", page.contains("\n| `rF;` | "));
    }

    private static void tests(String page, File home) {
        Set<String> there = new TreeSet<>();
        for (String name : new File(home, "src/test/java").list()) {
            if (name.endsWith("Test.java")) {
                there.add(name.substring(0, name.length() - 5));
            }
        }
        Set<String> told = new TreeSet<>();
        Matcher names = Pattern.compile("`(\\w+Test)`").matcher(page);
        while (names.find()) {
            told.add(names.group(1));
        }
        checks.holds("tests: " + told + " for " + there, told.equals(there));
        checks.holds("the command", page.contains("```sh\n.ci/run\n```") && new File(home, ".ci/run").canExecute());
    }
}
