import java.lang.reflect.InvocationTargetException;
import java.lang.reflect.Method;
import java.util.ArrayList;
import java.util.List;

/**
 * Runs calls that are written as the document writes its examples: "ring(3) -> 5; ring(0) -> throws
 * IllegalArgumentException; read "u0" -> 2". Each script begins with a new object. A call without an arrow may answer
 * whatever it likes but must not throw.
 */
final class Script {
    private static int wrong = 0;

    private Script() {
    }

    static void run(String title, String script) {
        SiegePost post = new SiegePost();
        for (String row : rowsOf(script)) {
            int arrow = row.indexOf("->");
            String call = (arrow < 0 ? row : row.substring(0, arrow)).trim();
            String got = answerOf(post, call);
            String due = arrow < 0 ? "" : row.substring(arrow + 2).trim().replaceAll("\\s+", " ");
            boolean isRight = arrow < 0 ? !got.startsWith("throws") && !got.startsWith("no ") : got.equals(due);
            if (!isRight) {
                wrong++;
                System.out.println(title + ": " + row + ", but the answer is " + got);
            }
        }
    }

    static void end() {
        System.out.println(wrong == 0 ? "all answers are as due" : wrong + " answers are not as due");
        if (wrong != 0) {
            System.exit(1);
        }
    }

    /** The rows between semicolons; those within quotation marks belong to texts. */
    private static List<String> rowsOf(String script) {
        List<String> rows = new ArrayList<>();
        boolean isText = false;
        StringBuilder row = new StringBuilder();
        for (char c : (script + ";").toCharArray()) {
            if (c == '"') {
                isText = !isText;
            }
            if (c == ';' && !isText) {
                if (!row.toString().isBlank()) {
                    rows.add(row.toString().trim());
                }
                row.setLength(0);
            } else {
                row.append(c);
            }
        }
        return rows;
    }

    private static String answerOf(SiegePost post, String call) {
        int quote = call.indexOf('"');
        if (quote < 0) {
            int open = call.indexOf('(');
            return invoked(post, call.substring(0, open), argumentsOf(call.substring(open + 1, call.indexOf(')'))));
        }
        String answer = "";
        for (char c : call.substring(quote + 1, call.lastIndexOf('"')).toCharArray()) {
            answer = invoked(post, call.substring(0, quote).trim(), new Object[] {c});
        }
        return answer;
    }

    private static Object[] argumentsOf(String list) {
        if (list.isBlank()) {
            return new Object[0];
        }
        String[] words = list.split(",");
        Object[] arguments = new Object[words.length];
        for (int i = 0; i < words.length; i++) {
            String word = words[i].trim();
            if (word.equals("true") || word.equals("false")) {
                arguments[i] = word.equals("true");
            } else if (word.equals("MIN")) {
                arguments[i] = Integer.MIN_VALUE;
            } else {
                arguments[i] = word.equals("MAX") ? Integer.MAX_VALUE : Integer.parseInt(word);
            }
        }
        return arguments;
    }

    private static String invoked(SiegePost post, String name, Object[] arguments) {
        for (Method method : SiegePost.class.getMethods()) {
            if (method.getName().equals(name) && method.getParameterCount() == arguments.length) {
                try {
                    return String.valueOf(method.invoke(post, arguments));
                } catch (InvocationTargetException e) {
                    return "throws " + e.getCause().getClass().getSimpleName();
                } catch (IllegalAccessException e) {
                    return "no access to " + name;
                }
            }
        }
        return "no method " + name;
    }
}
