import java.io.IOException;
import java.lang.reflect.Method;
import java.lang.reflect.Modifier;
import java.nio.file.Files;
import java.nio.file.Path;
import java.util.ArrayList;
import java.util.List;
import java.util.Set;
import java.util.TreeSet;
import java.util.regex.Matcher;
import java.util.regex.Pattern;

/** README.md tells how to use the class: its example rows answer what stands behind them, and it names every call. */
public final class ReadmeTests {
    private static final Path README = Path.of("README.md");
    private static final Pattern ROW = Pattern.compile("beats\\.(\\w+)\\((.*?)\\);\\s*// (true|false|-?\\d+)\\b.*");

    private ReadmeTests() {
    }

    public static void main(String[] args) throws IOException, ReflectiveOperationException {
        String text = Files.readString(README);
        theExample(text);
        theTable(text);
        Due.yes("it tells how the tests are run", text.contains(".ci/run"));
        Due.end();
    }

    private static void theExample(String text) throws ReflectiveOperationException {
        PictureBeats beats = new PictureBeats();
        List<String> rows = rowsOfExample(text);
        Due.yes("it has an example", rows.size() > 1);
        Due.same("its first row", rows.get(0), "PictureBeats beats = new PictureBeats();");
        for (String row : rows.subList(1, rows.size())) {
            Matcher parts = ROW.matcher(row);
            if (parts.matches()) {
                Due.same(row, answer(beats, parts.group(1), parts.group(2)), parts.group(3));
            } else {
                Due.yes("a call with its answer: " + row, false);
            }
        }
    }

    private static List<String> rowsOfExample(String text) {
        String begin = "```java\n";
        int start = text.indexOf(begin) + begin.length();
        return List.of(text.substring(start, text.indexOf("```", start)).split("\n"));
    }

    private static String answer(PictureBeats beats, String name, String told) throws ReflectiveOperationException {
        List<Object> arguments = new ArrayList<>();
        for (String argument : told.split(", ")) {
            arguments.add(argumentOf(argument));
        }
        return String.valueOf(callOf(name).invoke(beats, arguments.toArray()));
    }

    private static Object argumentOf(String told) {
        if (told.equals("true") || told.equals("false")) {
            return Boolean.valueOf(told);
        }
        return (int) (long) Long.decode(told);
    }

    private static Method callOf(String name) throws NoSuchMethodException {
        for (Method method : PictureBeats.class.getMethods()) {
            if (method.getName().equals(name)) {
                return method;
            }
        }
        throw new NoSuchMethodException(name);
    }

    private static void theTable(String text) {
        Set<String> due = new TreeSet<>();
        for (Method method : PictureBeats.class.getDeclaredMethods()) {
            if (Modifier.isPublic(method.getModifiers())) {
                due.add(method.getName());
            }
        }
        Set<String> named = new TreeSet<>();
        Matcher names = Pattern.compile("`(\\w+)`").matcher(tableOf(text));
        while (names.find()) {
            named.add(names.group(1));
        }
        Due.same("the table's calls", named.toString(), due.toString());
    }

    private static String tableOf(String text) {
        StringBuilder table = new StringBuilder();
        for (String row : text.split("\n")) {
            if (row.startsWith("|")) {
                table.append(row).append('\n');
            }
        }
        return table.toString();
    }
}
