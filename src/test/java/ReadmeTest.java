import java.io.ByteArrayOutputStream;
import java.io.IOException;
import java.io.PrintStream;
import java.lang.reflect.Method;
import java.lang.reflect.Modifier;
import java.net.URL;
import java.net.URLClassLoader;
import java.nio.file.Files;
import java.nio.file.Path;
import java.util.ArrayList;
import java.util.List;
import java.util.Map;
import java.util.TreeMap;
import java.util.regex.Matcher;
import java.util.regex.Pattern;
import javax.tools.JavaCompiler;
import javax.tools.ToolProvider;

/** README.md: its example is compiled and run, and its tables are compared with the class. */
public final class ReadmeTest {
    private static final Pattern CALL = Pattern.compile("\\| `(\\w+)\\(([^)]*)\\)` \\|([^|]*)\\|([^|]*)\\|");

    public static void main(String[] args) throws Exception {
        example();
        calls();
        orders();
        reasons();
        Script.end();
    }

    private static void check(boolean isSo, String what) {
        if (!isSo) {
            Script.tellWrong("README.md", "not so: " + what);
        }
    }

    private static void example() throws Exception {
        JavaCompiler compiler = ToolProvider.getSystemJavaCompiler();
        if (compiler == null) {
            System.out.println("the example is not looked at: this java has no compiler in it");
            return;
        }
        Path classes = Files.createTempDirectory("example");
        Path source = classes.resolve("Example.java");
        try {
            Files.writeString(source, Pages.between(Pages.README, "```java\n", "```"));
            int exit = compiler.run(null, null, null, "-cp", System.getProperty("java.class.path"), "-d", "" + classes, "" + source);
            check(exit == 0, "the example can be compiled");
            if (exit == 0) {
                String due = Pages.between(Pages.README, "```text\n", "```");
                String printed = printed(classes);
                check(!due.isEmpty() && printed.equals(due), "the example prints what it says, and not\n" + printed);
            }
        } finally {
            remove(classes);
        }
    }

    private static String printed(Path classes) throws Exception {
        PrintStream before = System.out;
        ByteArrayOutputStream printed = new ByteArrayOutputStream();
        try (URLClassLoader loader = new URLClassLoader(new URL[] {classes.toUri().toURL()})) {
            System.setOut(new PrintStream(printed, true));
            loader.loadClass("Example").getMethod("main", String[].class).invoke(null, (Object) new String[0]);
        } finally {
            System.setOut(before);
        }
        return printed.toString().replace("\r", "");
    }

    private static void remove(Path directory) throws IOException {
        for (Path file : Files.list(directory).toList()) {
            Files.delete(file);
        }
        Files.delete(directory);
    }

    /** Each method of the face has one row, with its arguments and its exceptions in their order. */
    private static void calls() {
        Map<String, Method> methods = new TreeMap<>();
        for (Method method : SiegePost.class.getDeclaredMethods()) {
            if (Modifier.isPublic(method.getModifiers())) {
                methods.put(method.getName(), method);
            }
        }
        String tables = Pages.between(Pages.README, "### What its calls answer and throw", "### Orders as a text");
        Matcher row = CALL.matcher(tables);
        while (row.find()) {
            Method method = methods.remove(row.group(1));
            if (method == null) {
                check(false, row.group(1) + " is of the face and has one row");
                continue;
            }
            int arguments = row.group(2).isEmpty() ? 0 : row.group(2).split(", ").length;
            check(arguments == method.getParameterCount(), row.group(1) + " has the arguments " + row.group(2));
            check(Pages.inOneLine(Pages.PROGRAM).replaceAll("\\b(int|char|boolean) (?=\\w+[,)])", "").contains(row.group(1) + "(" + row.group(2) + ")"),
                    row.group(1) + " has arguments of the names " + row.group(2));
            check(!row.group(3).isBlank(), row.group(1) + " has an answer");
            List<String> told = new ArrayList<>();
            Matcher exception = Pattern.compile("`(\\w+Exception)`").matcher(row.group(4));
            while (exception.find()) {
                told.add(exception.group(1));
            }
            List<String> due = new ArrayList<>();
            for (Class<?> type : method.getExceptionTypes()) {
                due.add(type.getSimpleName());
            }
            check(told.equals(due), row.group(1) + " throws " + told);
        }
        check(methods.isEmpty(), "there is a row for each of " + methods.keySet());
    }

    /** Each order does what the call beside it does. */
    private static void orders() {
        String start = "2 * balloon(10); 8 * letter(1, 0); fill(1, 10); ballast(1, 9);";
        String section = Pages.between(Pages.README, "### Orders as a text", "### Reasons");
        Matcher row = Pattern.compile("`([^`]+)` \\| `(\\w+\\([^)]*\\))`").matcher(section);
        int orders = 0;
        while (row.find()) {
            orders++;
            String ready = row.group(1).startsWith("u") || row.group(1).startsWith("d")
                    ? "balloon(90); fill(0, 80); ballast(0, 9);" + (row.group(1).startsWith("d") ? "launch(0);" : "") : start;
            Script.run("README.md", ready + "append \"" + row.group(1) + "\"; read() -> 1;");
            Script.runBoth("README.md", ready + "append \"" + row.group(1) + "\"; read()", ready + row.group(2));
        }
        check(orders == 7, "there are seven kinds of orders");
    }

    private static void reasons() {
        String section = Pages.between(Pages.README, "### Reasons for what is refused", "## How to run");
        String terms = Pages.inOneLine(Pages.between(Pages.DOCUMENT, "\nReasons. ", "\n\n"));
        for (int reason = 1; reason <= 9; reason++) {
            Matcher row = Pattern.compile("\\| " + reason + ": ([^|]+) \\| ([^|]+) \\|").matcher(section);
            if (!row.find()) {
                check(false, "there is a row for the reason " + reason);
            } else if (reason > 1 && !terms.isEmpty()) {
                // The first one names three limits at once, and is told with fewer words.
                check(terms.contains(reason + ", " + row.group(1) + ": " + row.group(2)), "the reason " + reason + " is as the document says");
            }
        }
    }
}
