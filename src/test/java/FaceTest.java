import java.io.IOException;
import java.lang.reflect.Field;
import java.lang.reflect.Method;
import java.lang.reflect.Modifier;
import java.nio.file.Files;
import java.nio.file.Path;
import java.util.ArrayList;
import java.util.Arrays;
import java.util.List;
import java.util.Map;
import java.util.Set;
import java.util.TreeMap;
import java.util.TreeSet;
import java.util.regex.Matcher;
import java.util.regex.Pattern;

/** The face is the document's and nothing more, and the source keeps to what of LANGUAGE.md can be seen by simple means. */
public final class FaceTest {
    private static final String SOURCE = "src/main/java/RoundedSums.java";
    private static final String[] METHODS = {
        "int feed(int, int, int, int, int)", "int program(int)", "int fault()", "int where()", "int about(int)",
        "long variable(int, int)", "int operand(int, int)", "boolean set(int, int)", "long at(int, int)", "int went(int)",
        "long form(int, boolean, int)", "long reach(int, boolean, int)", "long bound(int)", "int noise(int, int)",
        "int shared(int, int)", "long part(int, int)", "int blame(int)", "int may(int)", "long split(int, int, int)",
        "int splits(int, int)", "long climb(int, int, int)", "long witness(int, int, int, int)", "long worst(int)",
        "int parts(int, int, int)", "int finer(int, int)", "int grid(int, int)", "boolean range(int, int, int)",
        "int doubtful(int)", "int size()", "int trouble()"};

    private static int wrong = 0;

    private static void check(String what, boolean holds) {
        if (!holds) {
            wrong++;
            System.out.println("not so: " + what);
        }
    }

    private static String told(Method m) {
        List<String> types = new ArrayList<>();
        for (Class<?> c : m.getParameterTypes()) {
            types.add(c.getSimpleName());
        }
        return m.getReturnType().getSimpleName() + " " + m.getName() + "(" + String.join(", ", types) + ")";
    }

    private static void face() {
        Class<?> c = RoundedSums.class;
        check("public and final", Modifier.isPublic(c.getModifiers()) && Modifier.isFinal(c.getModifiers()));
        check("one public constructor", c.getDeclaredConstructors().length == 1 && Modifier.isPublic(c.getDeclaredConstructors()[0].getModifiers()));
        Set<String> publics = new TreeSet<>();
        Set<String> names = new TreeSet<>();
        for (Method m : c.getDeclaredMethods()) {
            if (Modifier.isPublic(m.getModifiers())) {
                publics.add(told(m));
                names.add(m.getName());
                check(told(m) + " isn't static", !Modifier.isStatic(m.getModifiers()));
            } else {
                check(told(m) + " is private", Modifier.isPrivate(m.getModifiers()));
            }
        }
        check("the public methods " + publics, publics.equals(new TreeSet<>(Arrays.asList(METHODS))));
        for (Method m : c.getDeclaredMethods()) {
            check(m + " bears no public name", Modifier.isPublic(m.getModifiers()) || !names.contains(m.getName()));
        }
        for (Field f : c.getDeclaredFields()) {
            boolean constant = f.getName().equals("NONE") || f.getName().equals("NOTHING");
            check(f + " is private, or a constant of the document", constant ? Modifier.isPublic(f.getModifiers()) : Modifier.isPrivate(f.getModifiers()));
            check(f + " is no static state", !Modifier.isStatic(f.getModifiers()) || Modifier.isFinal(f.getModifiers()) && f.getType().isPrimitive());
        }
        check("at most twelve classes", c.getDeclaredClasses().length <= 11);
        for (Class<?> inside : c.getDeclaredClasses()) {
            check(inside + " is private and static", Modifier.isPrivate(inside.getModifiers()) && Modifier.isStatic(inside.getModifiers()));
            long own = Arrays.stream(inside.getDeclaredFields()).filter(f -> !Modifier.isStatic(f.getModifiers())).count();
            check(inside + " has some twenty fields at most", own <= 20);
            for (Method m : inside.getDeclaredMethods()) {
                check(m + " bears no public name", !names.contains(m.getName()));
            }
        }
    }

    private static void source() throws IOException {
        String text = Files.readString(Path.of(SOURCE));
        String code = text.replaceAll("(?s)/\\*.*?\\*/", "").replaceAll("//[^\n]*", "");
        for (String banned : new String[] {"->", "::", "Exact(", "finally", "synchronized", "assert ", "try ", "catch", "Object", "double", "float",
            "System.out", "System.nano", "System.current", "hashCode", "equals(", "package ", "interface ", "lambda", "static {"}) {
            check("the source has no " + banned, !code.contains(banned));
        }
        Matcher imports = Pattern.compile("import ([^;]+);").matcher(code);
        while (imports.find()) {
            check("import " + imports.group(1), imports.group(1).equals("java.util.NoSuchElementException"));
        }
        check("one throw, of the document's", code.split("throw new", -1).length == 2 && code.contains("throw new NoSuchElementException("));
        methods(code);
        depths(code);
    }

    /** The lines of each method from its head to its end, by name; of those that bear one name together. */
    private static Map<String, List<String>> bodies(String code) {
        String[] lines = code.split("\n");
        Pattern head = Pattern.compile("( +)(?:(?:public|private|static|final) )*[A-Za-z\\[\\]]* ?(\\w+)\\([^;()]*\\)(?: throws \\w+)? \\{");
        Map<String, List<String>> all = new TreeMap<>();
        for (int i = 0; i < lines.length; i++) {
            Matcher m = head.matcher(lines[i]);
            if (!m.matches() || lines[i].matches(" +(?:if|for|while|switch|return|else|\\}).*")) {
                continue;
            }
            int end = i;
            while (end < lines.length && !lines[end].equals(m.group(1) + "}")) {
                end++;
            }
            all.computeIfAbsent(m.group(2), name -> new ArrayList<>()).add(String.join("\n", Arrays.copyOfRange(lines, i, end)));
        }
        return all;
    }

    private static void methods(String code) {
        bodies(code).forEach((name, bodies) -> {
            for (String body : bodies) {
                String head = body.split("\n")[0];
                check(head.trim() + ": at most seven parameters", head.split(",").length <= 7);
                check(head.trim() + ": at most sixty lines", body.split("\n").length <= 60);
            }
        });
    }

    /** Calls of the face, and those that they make, told by their names; the library's are the last of a chain. */
    private static void depths(String code) {
        Map<String, List<String>> bodies = bodies(code);
        for (String method : METHODS) {
            String name = method.replaceAll(".* (\\w+)\\(.*", "$1");
            check("the source has " + name, bodies.containsKey(name));
            String chain = deepest(name, bodies, "");
            check("at most eight calls deep:" + chain, chain.trim().split(" ").length <= 8);
        }
    }

    /** The longest chain of calls that begins with a call, behind those that stand open. */
    private static String deepest(String name, Map<String, List<String>> bodies, String open) {
        String here = open + " " + name;
        if (!bodies.containsKey(name) || here.trim().split(" ").length > 20) {
            return here;
        }
        String most = here;
        for (String body : bodies.get(name)) {
            Matcher called = Pattern.compile("\\b(?!(?:if|for|while|switch|return)\\b)(\\w+)\\(").matcher(body.substring(body.indexOf('\n')));
            while (called.find()) {
                String chain = deepest(called.group(1), bodies, here);
                most = chain.split(" ").length > most.split(" ").length ? chain : most;
            }
        }
        return most;
    }

    public static void main(String[] args) throws IOException {
        face();
        source();
        System.out.println(wrong == 0 ? "the face and the source are as due" : wrong + " things are not as due");
        if (wrong != 0) {
            System.exit(1);
        }
    }
}
