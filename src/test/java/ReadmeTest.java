import java.io.IOException;
import java.lang.reflect.Method;
import java.lang.reflect.Modifier;
import java.nio.file.Files;
import java.nio.file.Path;
import java.util.regex.Matcher;
import java.util.regex.Pattern;

/** Makes the calls that README.md shows, and compares the answers that stand behind them there. */
public final class ReadmeTest {
    private static final Path README = Path.of("README.md");
    private static final Pattern BLOCK = Pattern.compile("(?s)```java\\n(.*?)```");
    private static final Pattern TEXT = Pattern.compile("for \\(char letter : \"([^\"]*)\"\\.toCharArray\\(\\)\\) \\{");
    private static final Pattern CALL = Pattern.compile("editor\\.(\\w+\\([^)]*\\));\\s+// (-?\\d+|[A-Z]+)(:.*)?");
    private static final String MADE = "StructureEditor editor = new StructureEditor();";
    private static final String[] CONSTANTS = {"BAD", "STATE", "FULL", "RANGE", "UNSTABLE", "NONE"};

    private ReadmeTest() {
    }

    public static void main(String[] args) throws IOException {
        String readme = Files.readString(README);
        Matcher blocks = BLOCK.matcher(readme);
        int shown = 0;
        while (blocks.find()) {
            shown += example(blocks.group(1));
        }
        Due.due("README.md shows calls", shown > 50 ? 1 : 0, 1);
        calls(readme);
        constants(readme);
        templates(readme);
        Due.finish();
    }

    /** Returns how many calls it shows. Each line must be one that is known here, so that none goes by untested. */
    private static int example(String block) {
        StructureEditor editor = null;
        int shown = 0;
        for (String written : block.split("\n")) {
            String line = written.trim();
            Matcher text = TEXT.matcher(line);
            Matcher call = CALL.matcher(line);
            if (line.equals(MADE)) {
                editor = new StructureEditor();
            } else if (text.matches()) {
                for (char letter : text.group(1).toCharArray()) {
                    editor.type(letter);
                }
            } else if (call.matches()) {
                shown++;
                Due.due("README.md: " + call.group(1), Calls.answer(editor, call.group(1)), number(call.group(2)));
            } else {
                boolean isLoop = line.equals("editor.type(letter);") || line.equals("}");
                Due.due("README.md has a line that is not tested: " + line, isLoop ? 0 : 1, 0);
            }
        }
        return shown;
    }

    private static long number(String answer) {
        if (!Character.isUpperCase(answer.charAt(0))) {
            return Long.parseLong(answer);
        }
        try {
            return StructureEditor.class.getField(answer).getInt(null);
        } catch (NoSuchFieldException | IllegalAccessException none) {
            throw new IllegalArgumentException("there is no constant " + answer, none);
        }
    }

    /** Each method of the face is told, with as many arguments as it has. */
    private static void calls(String readme) {
        for (Method method : StructureEditor.class.getDeclaredMethods()) {
            if (!Modifier.isPublic(method.getModifiers())) {
                continue;
            }
            Matcher told = Pattern.compile("`" + method.getName() + "\\(([^)]*)\\)`").matcher(readme);
            boolean isTold = told.find();
            Due.due("README.md tells " + method.getName(), isTold ? 1 : 0, 1);
            if (isTold) {
                String inside = told.group(1);
                int arguments = inside.isEmpty() ? 0 : inside.split(",").length;
                Due.due("arguments of " + method.getName(), arguments, method.getParameterCount());
            }
        }
    }

    private static void constants(String readme) {
        for (String name : CONSTANTS) {
            String row = "| `" + name + "` | " + number(name) + " |";
            Due.due("README.md has the row " + row, readme.contains(row) ? 1 : 0, 1);
        }
    }

    /** The items that README.md shows are items, behind those that they refer to. */
    private static void templates(String readme) {
        String table = readme.substring(readme.indexOf("| item |"), readme.indexOf("### Bytes"));
        Matcher shown = Pattern.compile("`([^`]*;)` ?").matcher(table);
        int items = 0;
        while (shown.find()) {
            items++;
            String item = shown.group(1);
            String before = item.startsWith("k:") ? "a:u1;b:u1;" : "n:u1;";
            TextTest.fault(before + item, StructureEditor.NONE);
        }
        Due.due("items that README.md shows", items, 12);
    }
}
