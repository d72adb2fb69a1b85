import java.io.IOException;
import java.lang.reflect.Constructor;
import java.lang.reflect.Field;
import java.lang.reflect.Method;
import java.lang.reflect.Modifier;
import java.nio.charset.StandardCharsets;
import java.nio.file.Files;
import java.nio.file.Path;
import java.util.ArrayList;
import java.util.List;
import java.util.TreeSet;
import java.util.regex.Matcher;
import java.util.regex.Pattern;

/** The public face is that of the document, and the source has no word that its Java leaves out. */
public final class FaceTests {

    private static final String[] FACE = {
        "int grow()", "int add(int)", "int cut(int)", "int open(int)", "int name()", "int nameAll()", "int letGo()",
        "int openAll()", "int set(int,int)", "int append(int)", "int clearBuffer()", "int firstError()", "int undo()",
        "int part(int)", "int sign(int)", "int about(int,int)", "int pair(int,int)", "int next(int)",
        "int count(int)", "int times(int)", "int setting(int)", "int ifNamed(int)", "int bestOften()",
        "double saved()", "long digest()"};

    private static final String[] LEFT_OUT = {
        "\\bimport\\b", "\\bpackage\\b", "->", "::", "\\bcatch\\b", "\\bfinally\\b", "\\btry\\b", "\\bassert\\b",
        "\\bsynchronized\\b", "\\binstanceof\\b", "\\bDouble\\.", "\\bFloat\\.", "\\bSystem\\.", "\\bObject\\b",
        "\\w+Exact\\b", "\\bequals\\b", "\\bhashCode\\b", "\\btoString\\b", "\\bMAX_VALUE\\b", "\\bMIN_VALUE\\b",
        "\\bgetMessage\\b", "\\bObjects\\b", "\\bThread\\b", "\\bprotected\\b", "\\bstatic\\s*\\{", "\\bwhile\\s*\\(true"};

    private static int wrong = 0;

    public static void main(String[] args) throws IOException {
        face();
        source();
        System.out.println(wrong == 0 ? "the face is as due" : wrong + " faults");
        if (wrong != 0) {
            System.exit(1);
        }
    }

    private static void due(String what, Object got, Object want) {
        if (!got.equals(want)) {
            wrong++;
            System.out.println(what + " is " + got + ", due is " + want);
        }
    }

    private static void face() {
        due("class is public and final", PairNames.class.getModifiers(), Modifier.PUBLIC | Modifier.FINAL);
        TreeSet<String> methods = new TreeSet<>();
        for (Method method : PairNames.class.getDeclaredMethods()) {
            if (!Modifier.isPrivate(method.getModifiers()) && !method.isSynthetic()) {
                due(method + " static", Modifier.isStatic(method.getModifiers()), false);
                methods.add(shown(method));
            }
        }
        due("methods", methods, new TreeSet<>(List.of(FACE)));
        List<String> fields = new ArrayList<>();
        for (Field field : PairNames.class.getDeclaredFields()) {
            if (!Modifier.isPrivate(field.getModifiers())) {
                fields.add(Modifier.toString(field.getModifiers()) + " " + field.getType() + " " + field.getName());
            }
        }
        due("fields", fields, List.of("public static final int NONE"));
        Constructor<?>[] made = PairNames.class.getDeclaredConstructors();
        due("constructors", made.length, 1);
        due("its parameters", made[0].getParameterCount(), 0);
        due("it is public", Modifier.isPublic(made[0].getModifiers()), true);
        TreeSet<String> publicNames = new TreeSet<>();
        for (String method : FACE) {
            publicNames.add(method.substring(method.indexOf(' ') + 1, method.indexOf('(')));
        }
        noSecondBearer(PairNames.class, publicNames);
        due("classes", PairNames.class.getDeclaredClasses().length <= 12, true);
        for (Class<?> inside : PairNames.class.getDeclaredClasses()) {
            noSecondBearer(inside, publicNames);
        }
    }

    private static String shown(Method method) {
        StringBuilder text = new StringBuilder(method.getReturnType().toString());
        text.append(' ').append(method.getName()).append('(');
        for (int i = 0; i < method.getParameterCount(); i++) {
            text.append(i == 0 ? "" : ",").append(method.getParameterTypes()[i]);
        }
        return text.append(')').toString();
    }

    /** No private method, and no method of a class inside, bears the name of a public one. */
    private static void noSecondBearer(Class<?> type, TreeSet<String> publicNames) {
        for (Method method : type.getDeclaredMethods()) {
            boolean ofTheFace = type == PairNames.class && Modifier.isPublic(method.getModifiers());
            due(type + " " + method.getName(), !ofTheFace && publicNames.contains(method.getName()), false);
        }
    }

    private static void source() throws IOException {
        byte[] bytes = Files.readAllBytes(Path.of("src/main/java/PairNames.java"));
        String text = new String(bytes, StandardCharsets.ISO_8859_1);
        String code = text.replaceAll("(?s)/\\*.*?\\*/", " ").replaceAll("//[^\n]*", " ");
        for (String left : LEFT_OUT) {
            due("'" + left + "' in the source", Pattern.compile(left).matcher(code).find(), false);
        }
        due("all characters are ASCII", text.chars().allMatch(c -> c < 128), true);
        Matcher thrown = Pattern.compile("throw new (\\w+)\\(").matcher(code);
        while (thrown.find()) {
            due("thrown", thrown.group(1).matches("Ill.*(State|Argument)Exception|IndexOutOfBoundsException"), true);
        }
    }
}
