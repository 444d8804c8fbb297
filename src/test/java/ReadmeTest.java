import java.io.IOException;
import java.lang.reflect.InvocationTargetException;
import java.lang.reflect.Method;
import java.lang.reflect.Modifier;
import java.nio.file.Files;
import java.nio.file.Path;
import java.util.Map;
import java.util.TreeMap;
import java.util.regex.Matcher;
import java.util.regex.Pattern;

/** README.md: its example answers as it says there, and its lists and table name the whole face. */
public final class ReadmeTest {
    private static final String NEW = "HintedPages pages = new HintedPages();";
    private static final Pattern CALL = Pattern.compile("pages\\.(\\w+)\\(([^)]*)\\); *// (throws )?([\\w.-]+?)(:.*)?");
    private static final String[] COLUMNS = {"IndexOutOfBoundsException", "IllegalArgumentException",
        "IllegalStateException"};

    private final Map<String, Method> face = new TreeMap<>();
    private final String text;

    private ReadmeTest(String text) {
        this.text = text;
        for (Method method : HintedPages.class.getDeclaredMethods()) {
            if (Modifier.isPublic(method.getModifiers())) {
                face.put(method.getName(), method);
            }
        }
    }

    public static void main(String[] args) throws IOException, IllegalAccessException {
        ReadmeTest test = new ReadmeTest(Files.readString(Path.of("README.md")));
        test.example();
        test.lists();
        test.table();
        Check.end("ReadmeTest");
    }

    private void example() throws IllegalAccessException {
        Matcher block = Pattern.compile("(?s)```java\n(.*?)```").matcher(text);
        HintedPages pages = null;
        while (block.find()) {
            for (String line : block.group(1).split("\n")) {
                if (line.equals(NEW)) {
                    pages = new HintedPages();
                } else {
                    answersAsItSays(pages, line);
                }
            }
        }
        Check.same("there is an example", pages == null ? 0 : 1, 1);
    }

    private void answersAsItSays(HintedPages pages, String line) throws IllegalAccessException {
        Matcher call = CALL.matcher(line);
        boolean isCall = call.matches() && face.containsKey(call.group(1)) && pages != null;
        Check.same(line + " is a call", isCall ? 1 : 0, 1);
        if (isCall) {
            String due = call.group(3) == null ? call.group(4) : "throws." + call.group(4);
            Check.same(line, answer(pages, face.get(call.group(1)), call.group(2)), due);
        }
    }

    private static String answer(HintedPages pages, Method method, String written) throws IllegalAccessException {
        String[] values = written.isEmpty() ? new String[0] : written.split(", ");
        Object[] arguments = new Object[values.length];
        for (int i = 0; i < values.length; i++) {
            arguments[i] = method.getParameterTypes()[i] == boolean.class ? (Object) Boolean.valueOf(values[i])
                : (Object) number(values[i]);
        }
        try {
            return String.valueOf(method.invoke(pages, arguments));
        } catch (InvocationTargetException e) {
            return "throws." + e.getCause().getClass().getSimpleName();
        }
    }

    private static int number(String value) {
        return value.startsWith("'") ? value.charAt(1) : Integer.parseInt(value);
    }

    /** Each call stands in the lists of what calls are for, with as many arguments as it takes. */
    private void lists() {
        Map<String, Integer> listed = new TreeMap<>();
        Matcher call = Pattern.compile("`(\\w+)\\(([^)`]*)\\)`").matcher(section("What each kind of call is for"));
        while (call.find()) {
            listed.put(call.group(1), call.group(2).isEmpty() ? 0 : call.group(2).split(", ").length);
        }
        Map<String, Integer> due = new TreeMap<>();
        for (Method method : face.values()) {
            due.put(method.getName(), method.getParameterCount());
        }
        Check.same("the lists", listed.toString(), due.toString());
    }

    /** Each call that throws stands in the table, with all that it throws and nothing else. */
    private void table() {
        Map<String, String> told = new TreeMap<>();
        String section = section("What is thrown, and when");
        Check.same("the columns", section.contains("| call | `" + String.join("` | `", COLUMNS) + "` |") ? 1 : 0, 1);
        Matcher row = Pattern.compile("(?m)^\\| `(\\w+)` \\|([^|]*)\\|([^|]*)\\|([^|]*)\\|$").matcher(section);
        int rows = 0;
        while (row.find()) {
            rows++;
            StringBuilder thrown = new StringBuilder();
            for (int i = 0; i < COLUMNS.length; i++) {
                thrown.append(row.group(i + 2).isBlank() ? "" : " " + COLUMNS[i]);
            }
            told.put(row.group(1), thrown.toString());
        }
        Map<String, String> due = new TreeMap<>();
        for (Method method : face.values()) {
            StringBuilder thrown = new StringBuilder();
            for (Class<?> type : method.getExceptionTypes()) {
                thrown.append(' ').append(type.getSimpleName());
            }
            if (thrown.length() > 0) {
                due.put(method.getName(), thrown.toString());
            } else {
                boolean isTold = section.contains("`" + method.getName() + "`");
                Check.same(method.getName() + " throws none", isTold ? 1 : 0, 1);
            }
        }
        Check.same("the table", told.toString(), due.toString());
        Check.same("and no call twice", rows, told.size());
    }

    private String section(String title) {
        int start = text.indexOf("\n## " + title + "\n");
        Check.same("section " + title, start < 0 ? 0 : 1, 1);
        int end = text.indexOf("\n## ", start + 1);
        return start < 0 ? "" : text.substring(start, end < 0 ? text.length() : end);
    }
}
