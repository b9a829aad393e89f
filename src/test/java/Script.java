import java.lang.reflect.InvocationTargetException;
import java.lang.reflect.Method;
import java.util.ArrayList;
import java.util.HashMap;
import java.util.List;
import java.util.Map;

/**
 * Runs calls that are written as the document writes its examples: "ring(3) -> 5; ring(0) -> throws
 * IllegalArgumentException; append "u0" -> 2". Each script begins with a new object. A call without an arrow may answer
 * whatever it likes but must not throw; one with "8 * " ahead of it is made so often, and the arrow is for the last time.
 * Of each call that throws as is due it is also looked whether it left unchanged what it should.
 */
final class Script {
    private static final Map<String, Method> METHODS = new HashMap<>();
    private static int wrong = 0;

    static {
        for (Method method : SiegePost.class.getMethods()) {
            METHODS.put(method.getName(), method);
        }
    }

    private Script() {
    }

    static void run(String title, String script) {
        SiegePost post = new SiegePost();
        List<String> calls = new ArrayList<>();
        for (String row : rowsOf(script)) {
            int arrow = row.indexOf("->");
            String call = (arrow < 0 ? row : row.substring(0, arrow)).trim();
            String got = answerOf(post, call);
            String due = arrow < 0 ? "" : row.substring(arrow + 2).trim().replaceAll("\\s+", " ");
            boolean isRight = arrow < 0 ? !got.startsWith("throws") && !got.startsWith("no ") : got.equals(due);
            if (!isRight) {
                tellWrong(title, row + ", but the answer is " + got);
            } else if (due.startsWith("throws")) {
                String changed = State.changedBy(calls, call, due);
                if (!changed.isEmpty()) {
                    tellWrong(title, row + ", but it changes " + changed);
                }
            }
            calls.add(call);
        }
    }

    /** Two scripts that must lead to the same state. */
    static void runBoth(String title, String script, String other) {
        run(title, script);
        run(title, other);
        String differs = State.differing(callsOf(script), callsOf(other));
        if (!differs.isEmpty()) {
            tellWrong(title, script + " and " + other + " differ in " + differs);
        }
    }

    private static List<String> callsOf(String script) {
        List<String> calls = new ArrayList<>();
        for (String row : rowsOf(script)) {
            calls.add(row.split("->")[0].trim());
        }
        return calls;
    }

    static void tellWrong(String title, String what) {
        wrong++;
        System.out.println(title + ": " + what);
    }

    static void end() {
        System.out.println(wrong == 0 ? "all answers are as due" : wrong + " answers are not as due");
        if (wrong != 0) {
            System.exit(1);
        }
    }

    /** The rows between semicolons; those within quotation marks belong to texts. */
    private static List<String> rowsOf(String script) {
        List<String> rows = new ArrayList<>();
        boolean isText = false;
        StringBuilder row = new StringBuilder();
        for (char c : (script + ";").toCharArray()) {
            if (c == '"') {
                isText = !isText;
            }
            if (c == ';' && !isText) {
                if (!row.toString().isBlank()) {
                    addRow(rows, row.toString().trim());
                }
                row.setLength(0);
            } else {
                row.append(c);
            }
        }
        return rows;
    }

    private static void addRow(List<String> rows, String row) {
        int star = row.indexOf(" * ");
        if (star < 0 || row.indexOf('"') >= 0) {
            rows.add(row);
            return;
        }
        String call = row.substring(star + 3).trim();
        int arrow = call.indexOf("->");
        for (int times = Integer.parseInt(row.substring(0, star)); times > 1; times--) {
            rows.add(arrow < 0 ? call : call.substring(0, arrow).trim());
        }
        rows.add(call);
    }

    static String answerOf(SiegePost post, String call) {
        int quote = call.indexOf('"');
        if (quote < 0) {
            int open = call.indexOf('(');
            return invoked(post, call.substring(0, open), argumentsOf(call.substring(open + 1, call.indexOf(')'))));
        }
        String answer = "";
        for (char c : call.substring(quote + 1, call.lastIndexOf('"')).toCharArray()) {
            answer = invoked(post, call.substring(0, quote).trim(), new Object[] {c});
        }
        return answer;
    }

    private static Object[] argumentsOf(String list) {
        if (list.isBlank()) {
            return new Object[0];
        }
        String[] words = list.split(",");
        Object[] arguments = new Object[words.length];
        for (int i = 0; i < words.length; i++) {
            String word = words[i].trim();
            if (word.equals("true") || word.equals("false")) {
                arguments[i] = word.equals("true");
            } else if (word.equals("MIN")) {
                arguments[i] = Integer.MIN_VALUE;
            } else {
                arguments[i] = word.equals("MAX") ? Integer.MAX_VALUE : Integer.parseInt(word);
            }
        }
        return arguments;
    }

    private static String invoked(SiegePost post, String name, Object[] arguments) {
        Method method = METHODS.get(name);
        if (method == null || method.getParameterCount() != arguments.length) {
            return "no method " + name;
        }
        try {
            return String.valueOf(method.invoke(post, arguments));
        } catch (InvocationTargetException e) {
            return "throws " + e.getCause().getClass().getSimpleName();
        } catch (IllegalAccessException e) {
            return "no access to " + name;
        }
    }
}
