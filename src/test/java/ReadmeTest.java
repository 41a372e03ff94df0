import java.io.IOException;
import java.lang.reflect.Method;
import java.lang.reflect.Modifier;
import java.net.URL;
import java.net.URLClassLoader;
import java.nio.file.Files;
import java.nio.file.Path;
import java.util.ArrayList;
import java.util.List;
import java.util.regex.Matcher;
import java.util.regex.Pattern;
import javax.tools.JavaCompiler;
import javax.tools.ToolProvider;

/** The Java of README.md is compiled and run as one program; each call answers what stands behind it, and every call of the face is shown. */
public final class ReadmeTest {
    private static final Pattern BLOCK = Pattern.compile("(?ms)^```java\n(.*?)^```$");
    /** A call, and what it answers: a number, true, false, a constant, or what it throws. */
    private static final Pattern SHOWN = Pattern.compile("(?s)(.*); // (-?\\d+|true|false|RoundedSums\\.\\w+|throws \\w+)(?:: .*)?");

    private final StringBuilder members = new StringBuilder();
    private final StringBuilder statements = new StringBuilder();
    private final List<String> wrong = new ArrayList<>();
    private int shown = 0;

    private void read(String page) {
        Matcher block = BLOCK.matcher(page);
        while (block.find()) {
            if (block.group(1).startsWith("static ")) {
                members.append(block.group(1));
            } else {
                readStatements(block.group(1));
            }
        }
    }

    private void readStatements(String block) {
        String statement = "";
        for (String line : block.split("\n")) {
            statement += (statement.isEmpty() ? "" : "\n") + line;
            if (line.endsWith(";")) {
                statements.append(statement).append('\n');
                statement = "";
            } else if (line.contains("; //")) {
                readShown(statement);
                statement = "";
            }
        }
        if (!statement.isEmpty()) {
            wrong.add("no statement: " + statement);
        }
    }

    private void readShown(String statement) {
        Matcher m = SHOWN.matcher(statement);
        if (!m.matches()) {
            wrong.add("no answer is shown: " + statement);
            return;
        }
        shown++;
        String call = m.group(1);
        String answer = m.group(2);
        String name = "\"" + call.replace("\\", "\\\\").replace("\"", "\\\"").replace("\n", "\\n") + "\"";
        if (answer.startsWith("throws ")) {
            String exception = answer.substring("throws ".length());
            statements.append("try { due(wrong, " + name + ", \"\" + (" + call + "), \"" + answer + "\"); } catch (" + exception + " e) { }\n");
        } else {
            statements.append("due(wrong, " + name + ", \"\" + (" + call + "), \"\" + (" + answer + "));\n");
        }
    }

    private void everyCallIsShown() {
        for (Method m : RoundedSums.class.getDeclaredMethods()) {
            if (Modifier.isPublic(m.getModifiers()) && !statements.toString().contains("(x." + m.getName() + "(")) {
                wrong.add(m.getName() + " isn't shown");
            }
        }
    }

    private String program() {
        return "import java.util.NoSuchElementException;\n"
            + "public final class ReadmeRun {\n"
            + "static void due(java.util.List<String> wrong, String call, String got, String want) {\n"
            + "if (!got.equals(want)) { wrong.add(call + \" answered \" + got + \", shown is \" + want); }\n}\n"
            + members
            + "public static void run(java.util.List<String> wrong) {\n" + statements + "}\n}\n";
    }

    private void compileAndRun(Path dir) throws IOException, ReflectiveOperationException {
        Path source = dir.resolve("ReadmeRun.java");
        Files.writeString(source, program());
        JavaCompiler javac = ToolProvider.getSystemJavaCompiler();
        if (javac == null || javac.run(null, null, null, "-cp", System.getProperty("java.class.path"), "-d", dir.toString(), source.toString()) != 0) {
            wrong.add("the page's Java does not compile");
            return;
        }
        try (URLClassLoader loader = new URLClassLoader(new URL[] {dir.toUri().toURL()}, ReadmeTest.class.getClassLoader())) {
            loader.loadClass("ReadmeRun").getMethod("run", List.class).invoke(null, wrong);
        }
    }

    private static void remove(Path dir) throws IOException {
        for (java.io.File file : dir.toFile().listFiles()) {
            Files.delete(file.toPath());
        }
        Files.delete(dir);
    }

    public static void main(String[] args) throws IOException, ReflectiveOperationException {
        ReadmeTest test = new ReadmeTest();
        test.read(Files.readString(Path.of("README.md")));
        test.everyCallIsShown();
        Path dir = Files.createTempDirectory("readme");
        try {
            test.compileAndRun(dir);
        } finally {
            remove(dir);
        }
        test.wrong.forEach(System.out::println);
        System.out.println(test.shown + " calls are shown: " + (test.wrong.isEmpty() ? "all answer so" : test.wrong.size() + " things are not as shown"));
        if (!test.wrong.isEmpty() || test.shown == 0) {
            System.exit(1);
        }
    }
}
