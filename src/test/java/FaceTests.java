import java.io.IOException;
import java.lang.reflect.Constructor;
import java.lang.reflect.Field;
import java.lang.reflect.Method;
import java.lang.reflect.Modifier;
import java.nio.charset.StandardCharsets;
import java.nio.file.Files;
import java.nio.file.Path;
import java.util.ArrayList;
import java.util.List;
import java.util.TreeSet;
import java.util.regex.Matcher;
import java.util.regex.Pattern;

/** The public face is that of the document, in the document's words and order, and there is no other. */
public final class FaceTests extends Checks {

    private static final Path DOCUMENT = Path.of("../shared/DOC.md");
    private static final Path SOURCE = Path.of("src/main/java/PairNames.java");

    private static final Pattern AHEAD = Pattern.compile("Ahead of the calls `(\\w+)`.* the interface says: (---- .*)\\.");

    private static final String[] FACE = {
        "int grow()", "int add(int)", "int cut(int)", "int open(int)", "int name()", "int nameAll()", "int letGo()",
        "int openAll()", "int set(int,int)", "int append(int)", "int clearBuffer()", "int firstError()", "int undo()",
        "int part(int)", "int sign(int)", "int about(int,int)", "int pair(int,int)", "int next(int)",
        "int count(int)", "int times(int)", "int setting(int)", "int ifNamed(int)", "int bestOften()",
        "double saved()", "long digest()"};

    public static void main(String[] args) throws IOException {
        members();
        words();
        finish();
    }

    private static void members() {
        tested = "the members";
        due("class is public and final", PairNames.class.getModifiers(), Modifier.PUBLIC | Modifier.FINAL);
        TreeSet<String> methods = new TreeSet<>();
        for (Method method : PairNames.class.getDeclaredMethods()) {
            if (!Modifier.isPrivate(method.getModifiers()) && !method.isSynthetic()) {
                due("modifiers of " + method, method.getModifiers(), Modifier.PUBLIC);
                methods.add(shown(method));
            }
        }
        due("methods", methods, new TreeSet<>(List.of(FACE)));
        List<String> fields = new ArrayList<>();
        for (Field field : PairNames.class.getDeclaredFields()) {
            if (!Modifier.isPrivate(field.getModifiers())) {
                fields.add(Modifier.toString(field.getModifiers()) + " " + field.getType() + " " + field.getName());
            }
        }
        due("fields", fields, List.of("public static final int NONE"));
        Constructor<?>[] made = PairNames.class.getDeclaredConstructors();
        due("constructors", made.length, 1);
        due("its parameters", made[0].getParameterCount(), 0);
        due("it is public", Modifier.isPublic(made[0].getModifiers()), true);
        TreeSet<String> publicNames = new TreeSet<>();
        for (String method : FACE) {
            publicNames.add(method.substring(method.indexOf(' ') + 1, method.indexOf('(')));
        }
        noSecondBearer(PairNames.class, publicNames);
        for (Class<?> inside : PairNames.class.getDeclaredClasses()) {
            noSecondBearer(inside, publicNames);
        }
    }

    private static String shown(Method method) {
        StringBuilder text = new StringBuilder(method.getReturnType().toString());
        text.append(' ').append(method.getName()).append('(');
        for (int i = 0; i < method.getParameterCount(); i++) {
            text.append(i == 0 ? "" : ",").append(method.getParameterTypes()[i]);
        }
        return text.append(')').toString();
    }

    /** No private method, and no method of a class inside, bears the name of a public one. */
    private static void noSecondBearer(Class<?> type, TreeSet<String> publicNames) {
        for (Method method : type.getDeclaredMethods()) {
            boolean ofTheFace = type == PairNames.class && Modifier.isPublic(method.getModifiers());
            due(type + " " + method.getName(), !ofTheFace && publicNames.contains(method.getName()), false);
        }
    }

    /** Each line of the document's interface stands in the source: names of parameters, throws clauses, the order. */
    private static void words() throws IOException {
        tested = "the document's interface";
        String source = Files.readString(SOURCE, StandardCharsets.ISO_8859_1).replaceAll("\\s+", " ");
        int last = -1;
        for (String due : lines()) {
            int at = source.indexOf(due);
            due("'" + due + "' is in the source", at >= 0, true);
            due("'" + due + "' is there once", source.indexOf(due, at + 1), -1);
            due("'" + due + "' is in its order", at > last, true);
            last = at;
        }
    }

    private static List<String> lines() throws IOException {
        List<String> all = new ArrayList<>();
        List<String> document = Files.readAllLines(DOCUMENT);
        for (String line : document) {
            if (line.startsWith("    public ") || line.startsWith("public ")) {
                all.add(line.contains("(") ? line.trim().replaceFirst(";$", " {") : line.trim());
            }
        }
        due("the class, the constant, the constructor and 25 methods", all.size(), 28);
        int groups = 0;
        for (String line : document) {
            Matcher ahead = AHEAD.matcher(line);
            if (ahead.matches()) {
                groups++;
                int first = indexOfCall(all, ahead.group(1));
                due("the interface has " + ahead.group(1), first >= 0, true);
                all.add(Math.max(first, 0), "// " + ahead.group(2));
            }
        }
        due("groups of calls", groups, 5);
        return all;
    }

    private static int indexOfCall(List<String> lines, String call) {
        for (int i = 0; i < lines.size(); i++) {
            if (lines.get(i).contains(" " + call + "(")) {
                return i;
            }
        }
        return -1;
    }
}
