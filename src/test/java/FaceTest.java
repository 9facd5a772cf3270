import java.io.IOException;
import java.lang.reflect.Constructor;
import java.lang.reflect.Field;
import java.lang.reflect.Method;
import java.lang.reflect.Modifier;
import java.nio.file.Files;
import java.nio.file.Path;
import java.util.Arrays;
import java.util.TreeSet;
import java.util.regex.Matcher;
import java.util.regex.Pattern;

/** The public face, and the rules of LANGUAGE.md that show by reflection or in the text of the program. */
public final class FaceTest {
    private static final Path SOURCE = Path.of("src/main/java/ChainBench.java");
    private static final String FACE = String.join("\n",
        "boolean clock(boolean, boolean) throws IllegalStateException",
        "boolean value(int) throws IllegalArgumentException",
        "int clocks()",
        "int device(int, int, int, int) throws IllegalArgumentException, IllegalStateException",
        "int find() throws IllegalStateException",
        "int found(int) throws IndexOutOfBoundsException",
        "int look(int, int) throws IllegalArgumentException",
        "int net(int, int, int, int) throws IllegalArgumentException, IllegalStateException",
        "int saw(int) throws IndexOutOfBoundsException",
        "int state()",
        "int test() throws IllegalStateException",
        "void core(int, int, boolean) throws IllegalArgumentException",
        "void fault(int, int, int) throws IllegalArgumentException");
    /** Words and signs that the rules leave no room for; each is looked for outside comments. */
    private static final String[] RULED_OUT = {
        "(?<!case .{1,40}|default )->", "::", "\\bfinally\\b", "\\bsynchronized\\b", "\\bassert\\b",
        "\\bvar\\b", "\\bpackage\\b",
        "\\bSystem\\.(?!arraycopy)", "\\bMath\\.random", "\\bThread\\b", "\\bhashCode\\b", "String toString\\("};

    /** Calls of a list that rule 4 leaves. */
    private static final String LIST_CALLS = "add|get|set|remove|size|isEmpty|clear";
    private static final int MOST_PARAMETERS = 7;
    private static final int MOST_METHOD_LINES = 60;
    private static final int MOST_CLASSES = 12;
    private static final int MOST_FIELDS = 20;

    private static final Checks CHECK = new Checks("FaceTest");

    public static void main(String[] args) throws IOException {
        face();
        hiddenMembers();
        sizes();
        sourceText();
        listCalls();
        methodLines();
        CHECK.end();
    }

    private static void face() {
        TreeSet<String> face = new TreeSet<>();
        for (Method method : ChainBench.class.getDeclaredMethods()) {
            if (!Modifier.isPrivate(method.getModifiers())) {
                CHECK.due(method + " is public and no more", method.getModifiers(), Modifier.PUBLIC);
                face.add(written(method));
            }
        }
        CHECK.dueText("the face", String.join("\n", face), FACE);
        CHECK.due("the class is public and final", ChainBench.class.getModifiers(), Modifier.PUBLIC | Modifier.FINAL);
        Constructor<?>[] constructors = ChainBench.class.getDeclaredConstructors();
        CHECK.due("constructors", constructors.length, 1);
        CHECK.due("the constructor is public", constructors[0].getModifiers(), Modifier.PUBLIC);
        CHECK.due("the constructor takes nothing", constructors[0].getParameterCount(), 0);
    }

    private static String written(Method method) {
        String parameters = "(" + names(method.getParameterTypes()) + ")";
        String text = method.getReturnType().getSimpleName() + " " + method.getName() + parameters;
        String thrown = names(method.getExceptionTypes());
        return thrown.isEmpty() ? text : text + " throws " + thrown;
    }

    private static String names(Class<?>[] types) {
        return String.join(", ", Arrays.stream(types).map(Class::getSimpleName).toList());
    }

    private static void hiddenMembers() {
        TreeSet<String> publicNames = new TreeSet<>();
        for (Method method : ChainBench.class.getMethods()) {
            publicNames.add(method.getName());
        }
        for (Method method : ChainBench.class.getDeclaredMethods()) {
            if (Modifier.isPrivate(method.getModifiers())) {
                boolean isPublicName = publicNames.contains(method.getName());
                CHECK.due("private " + method.getName() + " bears a public name", isPublicName, false);
            }
        }
        for (Field field : ChainBench.class.getDeclaredFields()) {
            CHECK.due(field + " is private", Modifier.isPrivate(field.getModifiers()), true);
            dueFinalIfStatic(field);
        }
        for (Class<?> inside : ChainBench.class.getDeclaredClasses()) {
            boolean shown = Modifier.isPublic(inside.getModifiers()) || Modifier.isProtected(inside.getModifiers());
            CHECK.due(inside + " is shown", shown, false);
            CHECK.due(inside + " is static", Modifier.isStatic(inside.getModifiers()), true);
            for (Field field : inside.getDeclaredFields()) {
                dueFinalIfStatic(field);
            }
        }
    }

    private static void dueFinalIfStatic(Field field) {
        boolean loose = Modifier.isStatic(field.getModifiers()) && !Modifier.isFinal(field.getModifiers());
        CHECK.due(field + " is static and changes", loose, false);
    }

    private static void sizes() {
        Class<?>[] inside = ChainBench.class.getDeclaredClasses();
        CHECK.due("at most twelve classes", inside.length + 1 <= MOST_CLASSES, true);
        dueSmall(ChainBench.class);
        for (Class<?> each : inside) {
            dueSmall(each);
        }
    }

    private static void dueSmall(Class<?> each) {
        int fields = 0;
        for (Field field : each.getDeclaredFields()) {
            fields += Modifier.isStatic(field.getModifiers()) ? 0 : 1;
        }
        CHECK.due(each + " has few fields", fields <= MOST_FIELDS, true);
        for (Method method : each.getDeclaredMethods()) {
            CHECK.due(method + " has few parameters", method.getParameterCount() <= MOST_PARAMETERS, true);
        }
        for (Constructor<?> constructor : each.getDeclaredConstructors()) {
            CHECK.due(constructor + " has few parameters", constructor.getParameterCount() <= MOST_PARAMETERS, true);
        }
    }

    private static String textWithoutComments() throws IOException {
        return Files.readString(SOURCE).replaceAll("(?s)/\\*.*?\\*/", "").replaceAll("//[^\n]*", "");
    }

    private static void listCalls() throws IOException {
        Matcher calls = Pattern.compile("\\b(devices|nets)\\.(\\w+)\\(").matcher(textWithoutComments());
        while (calls.find()) {
            CHECK.due("the call " + calls.group() + " is listed", calls.group(2).matches(LIST_CALLS), true);
        }
    }

    /** A method begins and ends at one depth: four blanks in the class, eight in one inside it. */
    private static void methodLines() throws IOException {
        Pattern method = Pattern.compile("(?m)^(    (?:    )?)\\S[^=\\n]*\\([^;=]*?\\{\\n((?s).*?)^\\1\\}");
        Matcher methods = method.matcher(textWithoutComments());
        while (methods.find()) {
            long lines = methods.group().lines().count();
            String first = methods.group().lines().findFirst().orElse("").trim();
            CHECK.due(first + " is short", lines <= MOST_METHOD_LINES, true);
        }
    }

    private static void sourceText() throws IOException {
        String text = textWithoutComments();
        for (String ruledOut : RULED_OUT) {
            CHECK.due("the program has " + ruledOut, Pattern.compile(ruledOut).matcher(text).find(), false);
        }
        Matcher imports = Pattern.compile("import ([^;]*);").matcher(text);
        while (imports.find()) {
            boolean listed = imports.group(1).matches("java\\.util\\.(ArrayList|List|Arrays|Iterator)");
            CHECK.due("import of " + imports.group(1), listed, true);
        }
        Matcher thrown = Pattern.compile("throw ([^;]*);").matcher(text);
        while (thrown.find()) {
            String due = "new (IllegalArgument|IllegalState|IndexOutOfBounds)Exception\\((\"[^\"]*\")?\\)";
            CHECK.due("throw " + thrown.group(1), thrown.group(1).matches(due), true);
        }
    }
}
