import java.util.ArrayList;
import java.util.List;
import java.util.Map;

/**
 * What the document says ahead of its terms and its promises, the heads of the promises, and its examples: what can be
 * read from the document is read from it, and not written down once more.
 */
public final class DocumentTest {
    private static final String REFUSED = "throws UnsupportedOperationException;";
    private static final String FLIGHT = "wind(0, 3, 0); balloon(10); fill(0, 10); courier(0, 5); launch(0) -> 4;";

    public static void main(String[] args) {
        whatItIs();
        manyCalls();
        if (!Pages.DOCUMENT.isEmpty()) {
            List<String> face = face();
            for (String member : face) {
                isInProgram(member);
            }
            heads(face);
            examples();
            groups(face);
        }
        Sentences.end("What it is");
    }

    private static void holds(String words, String aCase, String script) {
        Sentences.holds("What it is", words, aCase, script);
    }

    private static void whatItIs() {
        holds("balloons of paper that are filled with gas and leak", "in an hour",
                "balloon(10); fill(0, 10) -> 10; launch(0); pass(1); balloonOf(0, 1) -> 9; account(18) -> 1;");
        holds("ballast that is let go", "some of it",
                "balloon(20); ballast(0, 5); fill(0, 20); launch(0) -> 13; drop(0, 2) -> 3; balloonOf(0, 6) -> 15;");
        holds("couriers and letters in thin sheets with their weights", "one of each",
                "balloon(10); courier(0, 7); letter(4, 0); load(0, 0) -> 10; weightAgain(0) -> 10;");
        holds("heights by what gas bears", "17 are borne", "balloon(60); fill(0, 25); launch(0) -> 19; pass(1); balloonOf(0, 8) -> 4;");
        holds("drift by the winds of heights", "two heights, one behind the other", "wind(1, 2, 0); wind(0, 0, -1); balloon(10);"
                + "fill(0, 6); launch(0); pass(2); balloonOf(0, 9) -> 22; balloonOf(0, 10) -> 19;");
        holds("landings within the ring around the town or beyond it", "one flight with two rings",
                FLIGHT + "pass(5) -> 1; sign(0) -> l; undo(); ring(12); pass(5) -> 0; sign(0) -> x;");
        holds("words that come back from couriers", "when its hour has gone by",
                FLIGHT + "pass(7); word(0) -> 7; account(13) -> 0; pass(1); account(13) -> 1;");
        holds("letters chosen by their ranks", "the greatest one first", "letter(9, 0); letter(9, 2); letter(9, 1); balloon(10); fill(0, 7);"
                + "waiting(0) -> 1; waiting(1) -> 2; waiting(2) -> 0; loadAll(0) -> 2; waiting(0) -> 0;");
        holds("flights found in two ways", "ahead, and hour by hour", FLIGHT + "endsIn(0) -> 5; ends(0, 0) -> 32; ends(0, 1) -> 20;"
                + "ends(0, 2) -> 2; pass(4) -> 0; sign(0) -> a; pass(1) -> 1; balloonOf(0, 9) -> 32; balloonOf(0, 10) -> 20; balloonOf(0, 7) -> 2;");
        holds("what lies ahead", "it does not come to pass by being told", FLIGHT + "endsIn(0) -> 5; endsIn(0) -> 5; account(0) -> 0;");
        holds("the best ballast to let go", "three times the wind of the height 0", "wind(0, 3, 0); balloon(10); ballast(0, 5); fill(0, 8);"
                + "launch(0) -> 2; bestDrop(0) -> 2; drop(0, 2); ends(0, 0) -> 32; bestDrop(0) -> 0;");
        holds("orders as texts with errors by place", "a text with and one without an error", "append \"h2;hx\"; read() -> throws"
                + " IllegalArgumentException; errorPosition() -> 4; append \"h2;h3\"; read() -> 2; account(0) -> 5;");
        holds("reasons for what is refused", "a launch", "balloon(30); launch(0) -> " + REFUSED + "refusal(false) -> 9; refusal(true) -> 3;");
        holds("ballast that adds up", "of a balloon that landed", "wind(0, 3, 0); balloon(10); ballast(0, 4); fill(0, 9); launch(0);"
                + "drop(0, 1); pass(9) -> 1; account(14) -> 4; account(15) -> 1; account(16) -> 3; isWell() -> true;");
        holds("undo and a snapshot", "one change of each", "gas(1); save() -> 0; gas(2) -> 103; undo() -> 1; account(2) -> 101; gas(9);"
                + "restore() -> 0; account(2) -> 101; account(20) -> 0;");
    }

    private static void manyCalls() {
        String sentence = "An object is used for at most 512 calls after it has been made";
        holds(sentence, "the last one of them, a change", "511 * pass(48) -> 0; pass(48) -> 0;");
        holds(sentence, "the last one of them, a question", "511 * pass(48) -> 0; account(0) -> 24528;");
        holds(sentence, "the last one of them, undone", "balloon(10); fill(0, 9); 509 * ring(7); undo() -> 7;");
        holds(sentence, "most of them append a text", "append \"" + "h48;".repeat(14) + "h48\"; read() -> 15; account(0) -> 720; append \""
                + "h48;".repeat(14) + "h48\"; read() -> 15; account(0) -> 1440;");
    }

    /** The members of the face, as "int gas(int amount) throws IllegalArgumentException". */
    private static List<String> face() {
        List<String> face = new ArrayList<>();
        for (String row : Pages.between(Pages.DOCUMENT, "## The public face\n\n```java\n", "```").split("\n")) {
            if (row.startsWith("    public ") && row.endsWith(";")) {
                face.add(row.substring("    public ".length(), row.length() - 1));
            }
        }
        if (face.size() != 35) {
            Script.tellWrong("The public face", "it has " + face.size() + " members");
        }
        return face;
    }

    private static void isInProgram(String member) {
        if (!Pages.inOneLine(Pages.PROGRAM).contains("public " + member + " {")) {
            Script.tellWrong("The public face", "the program has no " + member);
        }
    }

    /** Each promise begins with a member, the next one each time, and tells the exceptions that it throws in their order. */
    private static void heads(List<String> face) {
        Map<String, String> sections = Sentences.sections();
        for (int i = 0; i < face.size(); i++) {
            String member = face.get(i);
            String name = member.substring(0, member.indexOf('(')).replaceAll(".* ", "");
            String heading = "Promise " + (i + 1) + ": " + (i == 0 ? "A new object" : name);
            String promise = sections.getOrDefault(heading, "");
            // The promise of isWell alone does not begin with its member.
            if (promise.isEmpty() || !promise.startsWith("`" + member + "`: ") && !name.equals("isWell")) {
                Script.tellWrong(heading, "it is not told of " + member);
            }
            List<String> exceptions = new ArrayList<>();
            for (String row : promise.split("\n")) {
                if (row.startsWith("Throws `")) {
                    exceptions.add(Pages.between(row, "`", "`"));
                }
            }
            if (!member.endsWith(exceptions.isEmpty() ? ")" : "throws " + String.join(", ", exceptions))) {
                Script.tellWrong(heading, "it throws " + exceptions);
            }
        }
    }

    private static void examples() {
        int examples = 0;
        for (String paragraph : Pages.between(Pages.DOCUMENT, "\nExamples. ", "\n## ").split("\n\n")) {
            int colon = paragraph.indexOf(":\n");
            if (colon > 0 && paragraph.contains(" -> ")) {
                examples++;
                Script.run("Examples: " + paragraph.substring(0, colon), Pages.inOneLine(paragraph.substring(colon + 1)).replaceFirst("\\.$", ""));
            }
        }
        if (examples != 3) {
            Script.tellWrong("Examples", "there are " + examples);
        }
    }

    /** What the interface says ahead of some calls stands as a comment ahead of them, and ahead of no others. */
    private static void groups(List<String> face) {
        List<String> names = new ArrayList<>();
        for (String row : Pages.DOCUMENT.split("\n")) {
            if (row.startsWith("Ahead of the calls `")) {
                String says = Pages.between(row + "\n", "the interface says: ", ".\n");
                String part = Pages.between(Pages.PROGRAM + "\n    // ", "\n    // " + says + "\n", "\n    // ");
                List<String> calls = List.of(Pages.between(row, "`", "` the interface").split("`, `"));
                names.addAll(calls);
                if (!calls.equals(publicNames(part))) {
                    Script.tellWrong(says, "the program has " + publicNames(part));
                }
            }
        }
        if (names.size() != face.size() - 1) {
            Script.tellWrong("Ahead of the calls", "there are " + names);
        }
    }

    private static List<String> publicNames(String part) {
        List<String> names = new ArrayList<>();
        for (String row : part.split("\n")) {
            if (row.startsWith("    public ")) {
                names.add(row.substring(0, row.indexOf('(')).replaceAll(".* ", ""));
            }
        }
        return names;
    }
}
