import java.io.IOException;
import java.lang.reflect.Field;
import java.lang.reflect.Method;
import java.lang.reflect.Modifier;
import java.nio.file.Files;
import java.nio.file.Path;
import java.util.ArrayList;
import java.util.Arrays;
import java.util.List;
import java.util.Set;
import java.util.TreeSet;
import java.util.regex.Matcher;
import java.util.regex.Pattern;

/** The face is the document's and nothing more, and the source keeps to what of LANGUAGE.md can be seen by simple means. */
public final class FaceTest {
    private static final String SOURCE = "src/main/java/RoundedSums.java";
    private static final String[] METHODS = {
        "int feed(int, int, int, int, int)", "int program(int)", "int fault()", "int where()", "int about(int)",
        "long variable(int, int)", "int operand(int, int)", "boolean set(int, int)", "long at(int, int)", "int went(int)",
        "long form(int, boolean, int)", "long reach(int, boolean, int)", "long bound(int)", "int noise(int, int)",
        "int shared(int, int)", "long part(int, int)", "int blame(int)", "int may(int)", "long split(int, int, int)",
        "int splits(int, int)", "long climb(int, int, int)", "long witness(int, int, int, int)", "long worst(int)",
        "int parts(int, int, int)", "int finer(int, int)", "int grid(int, int)", "boolean range(int, int, int)",
        "int doubtful(int)", "int size()", "int trouble()"};

    private static int wrong = 0;

    private static void check(String what, boolean holds) {
        if (!holds) {
            wrong++;
            System.out.println("not so: " + what);
        }
    }

    private static String told(Method m) {
        List<String> types = new ArrayList<>();
        for (Class<?> c : m.getParameterTypes()) {
            types.add(c.getSimpleName());
        }
        return m.getReturnType().getSimpleName() + " " + m.getName() + "(" + String.join(", ", types) + ")";
    }

    private static void face() {
        Class<?> c = RoundedSums.class;
        check("public and final", Modifier.isPublic(c.getModifiers()) && Modifier.isFinal(c.getModifiers()));
        check("one public constructor", c.getDeclaredConstructors().length == 1 && Modifier.isPublic(c.getDeclaredConstructors()[0].getModifiers()));
        Set<String> publics = new TreeSet<>();
        Set<String> names = new TreeSet<>();
        for (Method m : c.getDeclaredMethods()) {
            if (Modifier.isPublic(m.getModifiers())) {
                publics.add(told(m));
                names.add(m.getName());
                check(told(m) + " isn't static", !Modifier.isStatic(m.getModifiers()));
            } else {
                check(told(m) + " is private", Modifier.isPrivate(m.getModifiers()));
            }
        }
        check("the public methods " + publics, publics.equals(new TreeSet<>(Arrays.asList(METHODS))));
        for (Method m : c.getDeclaredMethods()) {
            check(m + " bears no public name", Modifier.isPublic(m.getModifiers()) || !names.contains(m.getName()));
        }
        for (Field f : c.getDeclaredFields()) {
            boolean constant = f.getName().equals("NONE") || f.getName().equals("NOTHING");
            check(f + " is private, or a constant of the document", constant ? Modifier.isPublic(f.getModifiers()) : Modifier.isPrivate(f.getModifiers()));
            check(f + " is no static state", !Modifier.isStatic(f.getModifiers()) || Modifier.isFinal(f.getModifiers()) && f.getType().isPrimitive());
        }
        check("at most twelve classes", c.getDeclaredClasses().length <= 11);
        for (Class<?> inside : c.getDeclaredClasses()) {
            check(inside + " is private and static", Modifier.isPrivate(inside.getModifiers()) && Modifier.isStatic(inside.getModifiers()));
            long own = Arrays.stream(inside.getDeclaredFields()).filter(f -> !Modifier.isStatic(f.getModifiers())).count();
            check(inside + " has some twenty fields at most", own <= 20);
            for (Method m : inside.getDeclaredMethods()) {
                check(m + " bears no public name", !names.contains(m.getName()));
            }
        }
    }

    private static void source() throws IOException {
        String text = Files.readString(Path.of(SOURCE));
        String code = text.replaceAll("(?s)/\\*.*?\\*/", "").replaceAll("//[^\n]*", "");
        for (String banned : new String[] {"->", "::", "Exact(", "finally", "synchronized", "assert ", "try ", "catch", "Object", "double", "float",
            "System.out", "System.nano", "System.current", "hashCode", "equals(", "package ", "interface ", "lambda", "static {"}) {
            check("the source has no " + banned, !code.contains(banned));
        }
        Matcher imports = Pattern.compile("import ([^;]+);").matcher(code);
        while (imports.find()) {
            check("import " + imports.group(1), imports.group(1).equals("java.util.NoSuchElementException"));
        }
        check("one throw, of the document's", code.split("throw new", -1).length == 2 && code.contains("throw new NoSuchElementException("));
        methods(text);
    }

    private static void methods(String text) {
        String[] lines = text.split("\n");
        Pattern head = Pattern.compile("( +)(?:(?:public|private|static|final) )*[A-Za-z\\[\\]]* ?\\w+\\(([^;()]*)\\)(?: throws \\w+)? \\{");
        for (int i = 0; i < lines.length; i++) {
            Matcher m = head.matcher(lines[i]);
            if (!m.matches() || lines[i].matches(" +(?:if|for|while|switch|return|else|\\}).*")) {
                continue;
            }
            check(lines[i].trim() + ": at most seven parameters", m.group(2).split(",").length <= 7);
            int end = i;
            while (end < lines.length && !lines[end].equals(m.group(1) + "}")) {
                end++;
            }
            check(lines[i].trim() + ": at most sixty lines", end - i < 60);
        }
    }

    public static void main(String[] args) throws IOException {
        face();
        source();
        System.out.println(wrong == 0 ? "the face and the source are as due" : wrong + " things are not as due");
        if (wrong != 0) {
            System.exit(1);
        }
    }
}
