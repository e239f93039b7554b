import java.io.IOException;
import java.lang.reflect.Constructor;
import java.lang.reflect.Field;
import java.lang.reflect.Method;
import java.lang.reflect.Modifier;
import java.nio.file.Files;
import java.nio.file.Path;
import java.util.Arrays;
import java.util.List;
import java.util.TreeSet;
import java.util.regex.Matcher;
import java.util.regex.Pattern;

/** The public face of the document, and those rules of LANGUAGE.md that can be seen from outside. */
public final class FaceTest {
    private static final Path PROGRAM = Path.of("src/main/java/StructureEditor.java");
    private static final List<String> METHODS = Arrays.asList(
            "int type(int)", "int clearText()", "int templateFault()", "int define(int)", "int items(int)",
            "int patternFault()", "int find(int)", "int matches()", "int length()", "int byteAt(int)",
            "int insert(int,int,int)", "int delete(int,int)", "int overwrite(int,int)", "int copy(int,int)",
            "int paste(int)", "int pasteOver(int)", "int lay(int,int,int)", "int remove(int)",
            "int overlay(int,int)", "int field(int,int,int)", "long value(int,int)", "int path(int,int,int)",
            "int fieldAt(int,int)", "int counterpart(int,int,int)", "int setField(int,int,long)",
            "int follow(boolean)", "int refresh()", "int expected(int,int)", "int repair(int,int)", "int undo()",
            "int redo()", "int mark()", "int difference(int)", "int distance()", "int count(int)", "long digest()");
    private static final String FORBIDDEN =
            "\\b(throw|throws|try|catch|finally|synchronized|assert|import|package|Object|hashCode|toString)\\b|->|::";

    private FaceTest() {
    }

    public static void main(String[] args) throws IOException {
        face();
        source();
        Due.finish();
    }

    private static String signature(Method method) {
        StringBuilder text = new StringBuilder();
        text.append(method.getReturnType()).append(' ').append(method.getName()).append('(');
        for (int i = 0; i < method.getParameterCount(); i++) {
            text.append(i == 0 ? "" : ",").append(method.getParameterTypes()[i]);
        }
        return text.append(')').toString();
    }

    private static void face() {
        Class<?> face = StructureEditor.class;
        Due.due("the class is public and final", face.getModifiers(), Modifier.PUBLIC | Modifier.FINAL);
        TreeSet<String> open = new TreeSet<>();
        TreeSet<String> names = new TreeSet<>();
        for (Method method : face.getDeclaredMethods()) {
            if (!Modifier.isPrivate(method.getModifiers())) {
                open.add(signature(method));
                names.add(method.getName());
            }
        }
        Due.due("the open methods are those of the document: " + open, open.equals(new TreeSet<>(METHODS)) ? 1 : 0, 1);
        for (Method method : face.getDeclaredMethods()) {
            boolean clashes = Modifier.isPrivate(method.getModifiers()) && names.contains(method.getName());
            Due.due("private method with a public name: " + method, clashes ? 1 : 0, 0);
        }
        int constants = 0;
        for (Field field : face.getDeclaredFields()) {
            boolean isOpen = !Modifier.isPrivate(field.getModifiers());
            constants += isOpen ? 1 : 0;
            Due.due("an open field that is not public: " + field, isOpen && !Modifier.isPublic(field.getModifiers()) ? 1 : 0, 0);
            boolean state = Modifier.isStatic(field.getModifiers()) && !Modifier.isFinal(field.getModifiers());
            Due.due("static state: " + field, state ? 1 : 0, 0);
        }
        Due.due("open constants", constants, 6);
        Constructor<?>[] constructors = face.getDeclaredConstructors();
        Due.due("constructors", constructors.length, 1);
        Due.due("parameters of the constructor", constructors[0].getParameterCount(), 0);
        Due.due("the constructor is public", constructors[0].getModifiers(), Modifier.PUBLIC);
        for (Class<?> inside : face.getDeclaredClasses()) {
            Due.due("a static class: " + inside, Modifier.isStatic(inside.getModifiers()) ? 1 : 0, 1);
        }
        Due.due("at most twelve classes", face.getDeclaredClasses().length <= 11 ? 1 : 0, 1);
        for (Method method : face.getDeclaredMethods()) {
            parameters(method);
        }
        for (Class<?> inside : face.getDeclaredClasses()) {
            inside(inside, names);
        }
        long[] values = {StructureEditor.BAD, StructureEditor.STATE, StructureEditor.FULL, StructureEditor.RANGE,
            StructureEditor.UNSTABLE, StructureEditor.NONE};
        long[] want = {-1001, -1002, -1003, -1004, -1005, -1009};
        for (int i = 0; i < want.length; i++) {
            Due.due("constant " + i, values[i], want[i]);
        }
    }

    /** LANGUAGE.md, rule 11: "A method takes at most seven parameters." */
    private static void parameters(Method method) {
        Due.due("parameters of " + method, method.getParameterCount() <= 7 ? 1 : 0, 1);
    }

    /** Rules 1, 2, 5 and 11, of a class inside. */
    private static void inside(Class<?> inside, TreeSet<String> names) {
        Due.due("a closed class: " + inside, Modifier.isPublic(inside.getModifiers())
                || Modifier.isProtected(inside.getModifiers()) ? 1 : 0, 0);
        Due.due("no class inside of " + inside, inside.getDeclaredClasses().length, 0);
        for (Method method : inside.getDeclaredMethods()) {
            parameters(method);
            Due.due("method with a public name: " + method, names.contains(method.getName()) ? 1 : 0, 0);
        }
        int fields = 0;
        for (Field field : inside.getDeclaredFields()) {
            boolean isStatic = Modifier.isStatic(field.getModifiers());
            fields += isStatic ? 0 : 1;
            Due.due("static state: " + field, isStatic && !Modifier.isFinal(field.getModifiers()) ? 1 : 0, 0);
        }
        Due.due("fields of " + inside, fields <= 20 ? 1 : 0, 1);
    }

    private static void source() throws IOException {
        String source = Files.readString(PROGRAM);
        String code = source.replaceAll("(?s)/\\*.*?\\*/", "").replaceAll("//[^\n]*", "");
        Matcher matcher = Pattern.compile(FORBIDDEN).matcher(code);
        while (matcher.find()) {
            Due.due("forbidden in the program: " + matcher.group(), 1, 0);
        }
        for (int i = 0; i < source.length(); i++) {
            if (source.charAt(i) > 126) {
                Due.due("a sign of the program beyond 126", source.charAt(i), 0);
            }
        }
    }
}
