import java.util.ArrayList;
import java.util.HashSet;
import java.util.List;
import java.util.Set;
import java.util.regex.Matcher;
import java.util.regex.Pattern;

/** The rules of the language that can be seen in the program's text; FaceTest looks at those that can be seen from outside. */
public final class LanguageTest {
    private static final String LIBRARY = "String StringBuilder Integer Long Math ArrayList List Iterator Iterable Comparable System Arrays"
            + " IllegalStateException IllegalArgumentException IndexOutOfBoundsException ArithmeticException UnsupportedOperationException"
            + " NoSuchElementException RuntimeException";
    private static final String NOT_USED = "finally synchronized assert native volatile transient strictfp package getMessage equals"
            + " hashCode toString";
    private static final int MOST_LINES = 60;
    private static final int MOST_PARAMETERS = 7;

    public static void main(String[] args) {
        String program = withoutComments(Pages.PROGRAM);
        check(!program.isEmpty(), "rule 1", "the program's text is there");
        String bare = program.replaceAll("\"[^\"\n]*\"", "\"\"").replaceAll("'[^'\n]+'", "' '");
        words(bare);
        signs(program, bare);
        exceptions(program);
        methods(bare);
        Script.end();
    }

    private static void check(boolean isSo, String rule, String what) {
        if (!isSo) {
            Script.tellWrong(rule, "not so: " + what);
        }
    }

    private static String withoutComments(String program) {
        return program.replaceAll("(?s)/\\*.*?\\*/", "").replaceAll("(?m)//.*$", "");
    }

    private static List<String> found(String pattern, String text) {
        List<String> found = new ArrayList<>();
        Matcher matcher = Pattern.compile(pattern).matcher(text);
        while (matcher.find()) {
            found.add(matcher.group(1));
        }
        return found;
    }

    private static void words(String bare) {
        Set<String> known = new HashSet<>(List.of(LIBRARY.split(" ")));
        List<String> own = found("\\b(?:class|enum|interface|record) (\\w+)", bare);
        known.addAll(own);
        check(own.size() <= 12, "rule 11", "there are some twelve classes, and not " + own);
        for (String name : found("\\b([A-Z]\\w*[a-z]\\w*)", bare)) {
            check(known.contains(name), "rule 4", name + " is one of its own or of the library that is allowed");
        }
        for (String word : found("\\b([a-z]\\w*)\\b", bare)) {
            check(!List.of(NOT_USED.split(" ")).contains(word), "rules 6 and 10", "the program does without " + word);
        }
        check(found("(?m)^import (.*);$", bare).equals(List.of("java.util.NoSuchElementException")), "rule 4", "what is imported");
        for (String function : found("\\bMath\\.(\\w+)", bare)) {
            check(!function.endsWith("Exact"), "rule 4", "Math." + function + " does not throw");
        }
        check(found("\\bSystem\\.(?!arraycopy\\b)(\\w+)", bare).isEmpty(), "rule 13", "nothing of System but arraycopy");
    }

    private static void signs(String program, String bare) {
        check(!bare.contains("->") && !bare.contains("::"), "rule 2", "there is no lambda and no reference to a method");
        check(!bare.contains("\"\" +") && !bare.contains("+ \"\""), "rule 10", "no texts are joined by +");
        check(program.chars().allMatch(c -> c == '\n' || c >= 32 && c < 127), "rule 4", "its signs are plain");
        for (String field : found("(?m)^ +((?:private )?static [^(\n]*(?:=.*)?;)$", bare)) {
            check(field.contains("static final "), "rule 5", field + " is final");
        }
        check(found("(static) \\{", bare).isEmpty(), "rule 5", "there is no static block");
    }

    /** An exception is thrown with a written text, and nowhere beside a try. */
    private static void exceptions(String program) {
        for (String thrown : found("\\b(throw [^;]*;)", program)) {
            check(thrown.matches("throw new \\w+(Exception)\\((\"[^\"]*\")?\\);"), "rule 6", thrown + " has a written text");
        }
        check(found("\\b(catch|try)\\b", program).isEmpty(), "rule 6", "nothing is caught");
    }

    private static void methods(String bare) {
        Set<String> face = new HashSet<>(found("(?m)^    public (?:int|char|boolean|double|float) (\\w+)\\(", bare));
        String[] lines = bare.split("\n");
        for (int i = 0; i < lines.length; i++) {
            Matcher start = Pattern.compile("^(    |        )(?! |(?:if|for|while|switch|return|throw)\\b)[\\w\\[\\] ]*?(\\w+)\\(([^)]*)\\).*").matcher(lines[i]);
            if (!start.matches() || lines[i].endsWith(";")) {
                continue;
            }
            int end = i;
            while (end < lines.length - 1 && !lines[end].equals(start.group(1) + "}")) {
                end++;
            }
            check(end - i < MOST_LINES, "rule 11", start.group(2) + " has at most " + MOST_LINES + " lines");
            check(start.group(3).split(",").length <= MOST_PARAMETERS, "rule 11", start.group(2) + " has few parameters");
            check(lines[i].contains(" public ") || !face.contains(start.group(2)), "rule 1", start.group(2) + " is a name of the face");
            String body = String.join("\n", List.of(lines).subList(i + 1, end));
            check(!body.matches("(?s).*(?<![.\\w])" + start.group(2) + "\\(.*"), "rule 8", start.group(2) + " does not call itself");
        }
    }
}
