import java.io.IOException;
import java.lang.reflect.Constructor;
import java.lang.reflect.Field;
import java.lang.reflect.Method;
import java.lang.reflect.Modifier;
import java.nio.file.Files;
import java.nio.file.Path;
import java.util.Arrays;
import java.util.Set;
import java.util.TreeSet;
import java.util.regex.Matcher;
import java.util.regex.Pattern;

/** The public face, and those rules of LANGUAGE.md that a search tells. */
public final class FaceTest {
    private static final String INDEX = "IndexOutOfBoundsException";
    private static final String ARGUMENT = "IllegalArgumentException";
    private static final String STATE = "IllegalStateException";

    private static final String[] FACE = {
        "int write(int int) " + INDEX + " " + ARGUMENT,
        "int writeRow(int int int) " + INDEX + " " + ARGUMENT,
        "int trim(int) " + INDEX,
        "int hint(int int) " + INDEX + " " + ARGUMENT + " " + STATE,
        "int collect(int) " + INDEX + " " + STATE,
        "int tidy(int) " + ARGUMENT,
        "int set(int int) " + INDEX + " " + ARGUMENT,
        "int append(int) " + ARGUMENT + " " + STATE,
        "int clearBuffer() ",
        "int firstError() ",
        "int writeAll() " + ARGUMENT,
        "int undo() " + STATE,
        "int page(int int) " + INDEX + " " + ARGUMENT,
        "int block(int int) " + INDEX + " " + ARGUMENT,
        "int slot(int int boolean) " + INDEX,
        "int stream(int int) " + INDEX + " " + ARGUMENT,
        "int count(int) " + ARGUMENT,
        "int setting(int) " + INDEX,
        "int ifWritten(int int int) " + INDEX + " " + ARGUMENT,
        "int ifRewritten(int) " + ARGUMENT,
        "int bestRule(int) " + ARGUMENT,
        "double amplification() ",
        "long digest() ",
    };

    public static void main(String[] args) throws IOException {
        classAndConstructor();
        methods();
        fields();
        insides();
        limits(HintedPages.class);
        source(Files.readString(Path.of("src/main/java/HintedPages.java")));
        Check.end("FaceTest");
    }

    private static void classAndConstructor() {
        Check.same("the class", Modifier.toString(HintedPages.class.getModifiers()), "public final");
        Constructor<?>[] constructors = HintedPages.class.getDeclaredConstructors();
        Check.same("constructors", constructors.length, 1);
        Check.same("the constructor", Modifier.toString(constructors[0].getModifiers()), "public");
        Check.same("its parameters", constructors[0].getParameterCount(), 0);
    }

    private static void methods() {
        Set<String> face = new TreeSet<>();
        Set<String> names = new TreeSet<>();
        for (Method method : HintedPages.class.getDeclaredMethods()) {
            if (Modifier.isPublic(method.getModifiers())) {
                face.add(told(method));
                names.add(method.getName());
            }
        }
        Check.same("the face", face.toString(), new TreeSet<>(Arrays.asList(FACE)).toString());
        for (Method method : HintedPages.class.getDeclaredMethods()) {
            if (!Modifier.isPublic(method.getModifiers())) {
                Check.same(method + " is private", Modifier.isPrivate(method.getModifiers()) ? 1 : 0, 1);
                Check.same(method + " has a name of its own", names.contains(method.getName()) ? 1 : 0, 0);
            }
        }
    }

    private static String told(Method method) {
        StringBuilder told = new StringBuilder(method.getReturnType().getSimpleName());
        told.append(' ').append(method.getName()).append('(');
        String between = "";
        for (Class<?> parameter : method.getParameterTypes()) {
            told.append(between).append(parameter.getSimpleName());
            between = " ";
        }
        told.append(") ");
        between = "";
        for (Class<?> thrown : method.getExceptionTypes()) {
            told.append(between).append(thrown.getSimpleName());
            between = " ";
        }
        return told.toString();
    }

    private static void fields() {
        for (Field field : HintedPages.class.getDeclaredFields()) {
            boolean isNone = field.getName().equals("NONE");
            Check.same(field + " is private", Modifier.isPrivate(field.getModifiers()) ? 0 : 1, isNone ? 1 : 0);
        }
    }

    private static void insides() {
        for (Class<?> inside : HintedPages.class.getDeclaredClasses()) {
            int modifiers = inside.getModifiers();
            Check.same(inside + " is static", Modifier.isStatic(modifiers) ? 1 : 0, 1);
            Check.same(inside + " is not open", Modifier.isPublic(modifiers) || Modifier.isProtected(modifiers) ? 1 : 0, 0);
            limits(inside);
        }
        Check.same("a dozen classes", HintedPages.class.getDeclaredClasses().length < 12 ? 1 : 0, 1);
    }

    /** Rules 5 and 11: static fields are constants, and nothing is larger than it may be. */
    private static void limits(Class<?> type) {
        int fields = 0;
        for (Field field : type.getDeclaredFields()) {
            boolean isStatic = Modifier.isStatic(field.getModifiers());
            boolean isConstant = Modifier.isFinal(field.getModifiers()) && field.getType() == int.class;
            Check.same(field + " is no static state", isStatic && !isConstant ? 1 : 0, 0);
            fields += isStatic ? 0 : 1;
        }
        Check.same(type + " has few fields", fields <= 20 ? 1 : 0, 1);
        for (Method method : type.getDeclaredMethods()) {
            Check.same(method + " has few parameters", method.getParameterCount() <= 7 ? 1 : 0, 1);
        }
    }

    private static void source(String text) {
        String code = text.replaceAll("(?s)/\\*.*?\\*/", "").replaceAll("//.*", "").replaceAll("\"[^\"]*\"", "\"\"");
        for (String banned : new String[] {"->", "::", "\\bcatch\\b", "\\btry\\b", "\\bfinally\\b", "\\bassert\\b",
            "\\bsynchronized\\b", "\\bequals\\b", "\\bhashCode\\b", "\\btoString\\b", "Exact\\b", "\\bpackage\\b",
            "\\bnative\\b", "\\bThread\\b", "System\\.(?!arraycopy)", "Double\\.", "Float\\.", "\\bNaN\\b"}) {
            Matcher found = Pattern.compile(banned).matcher(code);
            Check.same("no " + banned, found.find() ? found.group() : "none", "none");
        }
        Check.same("each throw is of a written text", number(code, "\\bthrow\\b"),
            number(code, "throw new (" + INDEX + "|" + ARGUMENT + "|" + STATE + ")\\(\"\"\\);"));
        Check.same("no method is longer than 60 lines",
            number(code, "(?m)^( {4}| {8})(?!.*\\bclass\\b)\\S.*\\{\n(?:(?!\\1\\}).*\n){61}"), 0);
        Matcher imports = Pattern.compile("import ([^;]*);").matcher(code);
        while (imports.find()) {
            String name = imports.group(1);
            Check.same("import of " + name, name.matches("java\\.util\\.(Arrays|List|ArrayList)") ? 1 : 0, 1);
        }
    }

    private static int number(String code, String pattern) {
        Matcher found = Pattern.compile(pattern).matcher(code);
        int number = 0;
        while (found.find()) {
            number++;
        }
        return number;
    }
}
