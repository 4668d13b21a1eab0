import java.io.IOException;
import java.lang.reflect.Constructor;
import java.lang.reflect.Field;
import java.lang.reflect.Method;
import java.lang.reflect.Modifier;
import java.nio.file.Files;
import java.nio.file.Path;
import java.util.TreeSet;
import java.util.regex.Matcher;
import java.util.regex.Pattern;

/** The public face is the document's and no more; the source keeps to the rules that a glance can test. */
public final class FaceTest {
    private static final String[] METHODS = {"int feed(int,int,int,int,int)", "int end(int)", "int castle()",
        "int rule()", "int force(int)", "int person(int,int)", "int room(int,int)", "int door(int,int)",
        "int moment()", "int aim(int,int)", "boolean send(int,int,int)", "int undo()", "int ahead(int,int)",
        "int comes(int)", "int fewest(int)", "int passing(int,int,int)", "int caught(int)", "int page(int,int)",
        "int price(int)", "int turned(int,int)", "int swap(int)", "int note(int,int,int)", "int ruled(int)",
        "int look(int,int)", "int seed(int)", "int days(int,int,int)", "int count(int)", "int image(int)",
        "int back(int)"};
    private static final String[] BANNED = {"\\bthrow\\b", "\\btry\\b", "\\bcatch\\b", "\\bsynchronized\\b",
        "\\bassert\\b", "->", "::", "Exact\\b", "\\bpackage\\b", "\\bprotected\\b", "\\bnull\\b",
        "\\bSystem\\.(?!arraycopy)", "while \\(true\\)", "for \\(;;\\)", "\\bdouble\\b", "\\bfloat\\b",
        "^import (?!java\\.util\\.Arrays;)", "\\bvar\\b", "\\byield\\b", "\\bRuntime\\b", "\\bThread\\b"};

    public static void main(String[] args) throws IOException {
        face();
        source(Files.readString(Path.of(args.length > 0 ? args[0] : "src/main/java/OutwardDoors.java")));
        Check.finish("FaceTest");
    }

    private static void face() {
        TreeSet<String> due = new TreeSet<>();
        for (String method : METHODS) {
            due.add(method);
        }
        TreeSet<String> names = new TreeSet<>();
        TreeSet<String> got = new TreeSet<>();
        for (Method method : OutwardDoors.class.getDeclaredMethods()) {
            if (Modifier.isPrivate(method.getModifiers())) {
                names.add(method.getName());
                continue;
            }
            StringBuilder text = new StringBuilder(method.getReturnType() + " " + method.getName() + "(");
            for (Class<?> type : method.getParameterTypes()) {
                text.append(text.charAt(text.length() - 1) == '(' ? "" : ",").append(type);
            }
            got.add(text.append(")").toString());
        }
        Check.due("methods " + got, got.equals(due), true);
        for (String method : METHODS) {
            String name = method.substring(method.indexOf(' ') + 1, method.indexOf('('));
            Check.due("a private " + name, names.contains(name), false);
        }
        for (Field field : OutwardDoors.class.getDeclaredFields()) {
            boolean hidden = Modifier.isPrivate(field.getModifiers());
            Check.due("field " + field.getName(), hidden != field.getName().equals("NONE"), true);
        }
        for (Constructor<?> made : OutwardDoors.class.getDeclaredConstructors()) {
            Check.due("constructor", made.getParameterCount(), 0);
        }
        for (Class<?> inside : OutwardDoors.class.getDeclaredClasses()) {
            Check.due("static " + inside, Modifier.isStatic(inside.getModifiers()), true);
            Check.due("fields of " + inside, fieldsOf(inside) <= 20, true);
        }
        Check.due("classes", OutwardDoors.class.getDeclaredClasses().length <= 12, true);
        Check.due("final", Modifier.isFinal(OutwardDoors.class.getModifiers()), true);
    }

    private static int fieldsOf(Class<?> type) {
        int fields = 0;
        for (Field field : type.getDeclaredFields()) {
            fields += Modifier.isStatic(field.getModifiers()) ? 0 : 1;
        }
        return fields;
    }

    private static void source(String whole) {
        String text = whole.replaceAll("(?s)/\\*.*?\\*/", "").replaceAll("//[^\n]*", "");
        for (String banned : BANNED) {
            Matcher matcher = Pattern.compile(banned, Pattern.MULTILINE).matcher(text);
            Check.due("source has " + banned, matcher.find(), false);
        }
        String[] lines = text.split("\n");
        for (int k = 0; k < lines.length; k++) {
            Check.due("a line over 120 at " + k, lines[k].length() > 120, false);
            if (lines[k].matches(" +[\\w\\[\\] ]+\\(.*\\) \\{") && !lines[k].matches(" +(if|for|while|switch) .*")) {
                Check.due("a method of over sixty lines at " + k, lengthOf(lines, k) > 60, false);
                Check.due("over seven parameters at " + k, lines[k].split(",").length > 7, false);
            }
        }
        for (int k = 0; k < whole.length(); k++) {
            Check.due("sign at " + k, whole.charAt(k) < 128, true);
        }
    }

    private static int lengthOf(String[] lines, int from) {
        String close = lines[from].replaceAll("\\S.*", "") + "}";
        int to = from;
        while (to < lines.length && !lines[to].equals(close)) {
            to++;
        }
        return to - from + 1;
    }
}
