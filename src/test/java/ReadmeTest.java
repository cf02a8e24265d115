import java.lang.reflect.InvocationTargetException;
import java.lang.reflect.Method;
import java.nio.file.Files;
import java.nio.file.Path;
import java.util.Arrays;
import java.util.List;
import java.util.regex.Matcher;
import java.util.regex.Pattern;

/** The example of README.md answers what it says, its words are taken, and its table names every call. */
public final class ReadmeTest {
    private static final Check CHECK = new Check();
    private static final Pattern LINE = Pattern.compile("\"([RZ] [^\"]*)\"");
    private static final Pattern CALL = Pattern.compile("desk\\.(\\w+)\\(([^)]*)\\); +// (-?\\d+): .*");
    private static final Pattern ROW = Pattern.compile("\\| `(\\w+)\\(.*");

    public static void main(String[] args) throws Exception {
        List<String> text = Files.readAllLines(Path.of("README.md"));
        example(text);
        words(text);
        everyCall(text);
        CHECK.finish();
    }

    private static Method method(String name) {
        return Arrays.stream(ZoneDesk.class.getMethods()).filter(m -> m.getName().equals(name)).findFirst().orElseThrow();
    }

    private static void example(List<String> text) throws ReflectiveOperationException {
        ZoneDesk desk = new ZoneDesk();
        int calls = 0;
        for (String row : text) {
            Matcher line = LINE.matcher(row);
            if (line.find()) {
                CHECK.due(row, line.group(1).startsWith("R") ? 1 : 2, Check.line(desk, line.group(1)));
            }
            Matcher call = CALL.matcher(row);
            if (call.matches()) {
                calls++;
                CHECK.due(row, call.group(3), String.valueOf(answer(desk, call.group(1), call.group(2))));
            }
        }
        CHECK.due("calls in the example", 9, calls);
        CHECK.due("the date in the example", "2024-03-31T03:00:00+02:00", Check.date(desk, 1711846800L));
        CHECK.due("the name in the example", "CEST", Check.name(desk, 1711846800L));
    }

    private static Object answer(ZoneDesk desk, String name, String arguments) throws ReflectiveOperationException {
        Method called = method(name);
        String[] words = arguments.isEmpty() ? new String[0] : arguments.split(", ");
        Object[] values = new Object[words.length];
        for (int i = 0; i < words.length; i++) {
            boolean isLong = words[i].endsWith("L");
            values[i] = isLong ? (Object) Long.valueOf(words[i].replace("L", "")) : (Object) Integer.valueOf(words[i]);
        }
        try {
            return called.invoke(desk, values);
        } catch (InvocationTargetException e) {
            return e.getCause();
        }
    }

    /** Each word that the table shows is put into a line, where it must be taken, or refused behind "not". */
    private static void words(List<String> text) {
        taken(text, "set", "R @ 1990 max Mar 1 0 0 -");
        taken(text, "years", "R 0 1970 @ Mar 1 0 0 -");
        taken(text, "month", "R 0 1990 max @ 1 0 0 -");
        taken(text, "day", "R 0 1990 max Mar @ 0 0 -");
        taken(text, "clock time", "R 0 1990 max Mar 1 @ 0 -");
        taken(text, "offset, save", "Z @ - LMT");
        taken(text, "offset, save", "R 0 1990 max Mar 1 0 @ -");
        taken(text, "letters", "R 0 1990 max Mar 1 0 0 @");
        taken(text, "what saves", "Z 0 @ LMT");
        taken(text, "format", "Z 0 - @");
    }

    private static void taken(List<String> text, String kind, String line) {
        String row = text.stream().filter(r -> r.startsWith("| " + kind + " |")).findFirst().orElseThrow();
        Matcher word = Pattern.compile("(not )?`([^`]+)`").matcher(row);
        while (word.find()) {
            boolean isSuffix = kind.equals("clock time") && word.group(2).matches("[a-z]");
            String whole = line.replace("@", (isSuffix ? "2" : "") + word.group(2));
            Object due = word.group(1) != null ? Check.IAE : line.startsWith("R") ? 1 : 2;
            CHECK.due("line " + whole, due, Check.line(new ZoneDesk(), whole));
        }
    }

    private static void everyCall(List<String> text) {
        List<String> told = text.stream().map(ROW::matcher).filter(Matcher::matches).map(m -> m.group(1)).toList();
        List<String> there = Arrays.stream(ZoneDesk.class.getDeclaredMethods())
            .filter(m -> java.lang.reflect.Modifier.isPublic(m.getModifiers())).map(Method::getName).sorted().toList();
        CHECK.due("the calls in the table", there, told.stream().sorted().toList());
    }
}
