import java.io.IOException;
import java.lang.reflect.Field;
import java.lang.reflect.Method;
import java.lang.reflect.Modifier;
import java.nio.file.Files;
import java.nio.file.Path;
import java.util.ArrayList;
import java.util.List;
import java.util.TreeSet;
import java.util.regex.Matcher;
import java.util.regex.Pattern;

/** What can be read from the document itself: its public face, its constants and its three examples. */
public final class DocumentTest {
    private static final Path DOCUMENT = Path.of("../shared/DOC.md");

    private DocumentTest() {
    }

    public static void main(String[] args) throws IOException {
        String document = Files.readString(DOCUMENT);
        String face = between(document, "```java", "```");
        methods(face);
        promises(document);
        constants(face);
        examples(document);
        Due.finish();
    }

    private static String between(String text, String before, String after) {
        int start = text.indexOf(before) + before.length();
        return text.substring(start, text.indexOf(after, start));
    }

    /** A signature without the names of its parameters. */
    private static String signature(String type, String name, String parameters) {
        List<String> types = new ArrayList<>();
        for (String parameter : parameters.trim().isEmpty() ? new String[0] : parameters.split(",")) {
            types.add(parameter.trim().split(" ")[0]);
        }
        return type + " " + name + "(" + String.join(",", types) + ")";
    }

    private static TreeSet<String> openMethods() {
        TreeSet<String> open = new TreeSet<>();
        for (Method method : StructureEditor.class.getDeclaredMethods()) {
            if (!Modifier.isPrivate(method.getModifiers())) {
                Due.due("modifiers of " + method, method.getModifiers(), Modifier.PUBLIC);
                List<String> types = new ArrayList<>();
                for (Class<?> type : method.getParameterTypes()) {
                    types.add(type.getName());
                }
                open.add(method.getReturnType() + " " + method.getName() + "(" + String.join(",", types) + ")");
            }
        }
        return open;
    }

    /** "The public face": each method of the document is there, public and of the object, and no other one. */
    private static void methods(String face) {
        TreeSet<String> want = new TreeSet<>();
        Matcher matcher = Pattern.compile("public (int|long) (\\w+)\\(([^)]*)\\);").matcher(face);
        while (matcher.find()) {
            want.add(signature(matcher.group(1), matcher.group(2), matcher.group(3)));
        }
        Due.due("methods of the document", want.size(), 36);
        Due.due("open methods " + openMethods() + ", due are " + want, openMethods().equals(want) ? 1 : 0, 1);
        Due.due("the class is public and final", StructureEditor.class.getModifiers(), Modifier.PUBLIC | Modifier.FINAL);
        Due.due("public constructors", StructureEditor.class.getConstructors().length, 1);
        Due.due("constructors", StructureEditor.class.getDeclaredConstructors().length, 1);
        Due.due("its parameters", StructureEditor.class.getConstructors()[0].getParameterCount(), 0);
    }

    /** "The constructor and the methods follow, a promise each". */
    private static void promises(String document) {
        TreeSet<String> told = new TreeSet<>();
        Matcher matcher = Pattern.compile("## Promise \\d+: [\\w ]+\\n\\n`(?:(int|long) )?(\\w+)\\(([^)]*)\\)`").matcher(document);
        int promises = 0;
        while (matcher.find()) {
            promises++;
            if (matcher.group(1) != null) {
                told.add(signature(matcher.group(1), matcher.group(2), matcher.group(3)));
            }
        }
        Due.due("promises", promises, 37);
        Due.due("methods of the promises", told.equals(openMethods()) ? 1 : 0, 1);
    }

    /** "The constants": public, static, final, of the type int, and with the values that the face writes. */
    private static void constants(String face) {
        TreeSet<String> want = new TreeSet<>();
        Matcher lines = Pattern.compile("public static final int ([^;]*);").matcher(face);
        while (lines.find()) {
            for (String constant : lines.group(1).split(",")) {
                want.add("int " + constant.trim());
            }
        }
        TreeSet<String> got = new TreeSet<>();
        for (Field field : StructureEditor.class.getDeclaredFields()) {
            if (!Modifier.isPrivate(field.getModifiers())) {
                int modifiers = Modifier.PUBLIC | Modifier.STATIC | Modifier.FINAL;
                Due.due("modifiers of " + field, field.getModifiers(), modifiers);
                got.add(field.getType() + " " + field.getName() + " = " + valueOf(field));
            }
        }
        Due.due("constants of the document", want.size(), 6);
        Due.due("constants " + got + ", due are " + want, got.equals(want) ? 1 : 0, 1);
    }

    private static Object valueOf(Field field) {
        try {
            return field.get(null);
        } catch (IllegalAccessException closed) {
            return "closed";
        }
    }

    /** "Examples: Each of them begins with a new object; the results are given behind the calls." */
    private static void examples(String document) {
        String[] lines = between(document, "Examples:", "The constants:").split("\n");
        int examples = 0;
        int calls = 0;
        for (String line : lines) {
            if (!line.matches("\\d\\. .*")) {
                continue;
            }
            examples++;
            StructureEditor x = new StructureEditor();
            Matcher matcher = Pattern.compile("(\\w+\\([^)]*\\)) = (-?\\d+)").matcher(line);
            while (matcher.find()) {
                calls++;
                String call = matcher.group(1);
                Due.due("example " + examples + ": " + call, Calls.answer(x, call), Long.parseLong(matcher.group(2)));
            }
        }
        Due.due("examples", examples, 3);
        Due.due("their calls", calls, 41);
    }
}
