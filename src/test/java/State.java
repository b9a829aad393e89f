import java.util.ArrayList;
import java.util.List;

/**
 * All that an object tells of its state, so that it can be looked whether a call changed anything. It is always asked
 * of new objects with which the same calls were made, so that the object under test gets no more calls for it.
 */
final class State {
    /** What is looked at after the calls: as it is then, what the changes that can be undone lead to, and the snapshot. */
    private static final String[][] THEN = {{}, {"undo()"}, {"undo()", "undo()", "undo()", "undo()", "undo()", "undo()",
        "undo()", "undo()"}, {"restore()"}};

    private State() {
    }

    /** What a call changed that throws as is due, after others, though it should not; an empty text if nothing. */
    static String changedBy(List<String> calls, String call, String due) {
        List<String> withIt = new ArrayList<>(calls);
        withIt.add(call);
        boolean isRefusal = due.equals("throws UnsupportedOperationException");
        return differing(calls, withIt, call.equals("read()"), isRefusal);
    }

    /** In what two rows of calls lead to something different; an empty text if in nothing. */
    static String differing(List<String> calls, List<String> others) {
        return differing(calls, others, false, false);
    }

    private static String differing(List<String> calls, List<String> others, boolean isRead, boolean isRefusal) {
        StringBuilder differs = new StringBuilder();
        for (String[] then : THEN) {
            SiegePost one = after(calls, then);
            SiegePost other = after(others, then);
            String when = then.length == 0 ? "" : " after " + String.join(", ", then);
            if (other.account(19) != (isRead ? 0 : one.account(19))) {
                differs.append("the input").append(when).append(' ');
            }
            if (!isRead && other.errorPosition() != one.errorPosition()) {
                differs.append("the error position").append(when).append(' ');
            }
            if (!isRefusal && !reasonOf(other).equals(reasonOf(one))) {
                differs.append("the reason").append(when).append(' ');
            }
            if (!townOf(other).equals(townOf(one))) {
                differs.append("the state").append(when).append(' ');
            }
        }
        return differs.toString().trim();
    }

    private static SiegePost after(List<String> calls, String[] then) {
        SiegePost post = new SiegePost();
        for (String call : calls) {
            Script.answerOf(post, call);
        }
        for (String call : then) {
            Script.answerOf(post, call);
        }
        return post;
    }

    private static String reasonOf(SiegePost post) {
        return Script.answerOf(post, "refusal(false)") + " " + Script.answerOf(post, "refusal(true)");
    }

    private static String townOf(SiegePost post) {
        StringBuilder told = new StringBuilder();
        for (int what = 0; what <= 20; what++) {
            told.append(what == 19 ? 0 : post.account(what)).append(' ');
        }
        for (int i = 0; i < post.account(3); i++) {
            addBalloon(told, post, i);
        }
        for (int i = 0; i < post.account(8); i++) {
            for (int what = 0; what <= 3; what++) {
                told.append(post.letterOf(i, what)).append(' ');
            }
        }
        for (int i = 0; i < post.account(9); i++) {
            told.append(post.waiting(i)).append(' ');
        }
        told.append(Script.answerOf(post, "meanDistance()")).append(Script.answerOf(post, "share()"));
        // Only a change tells the winds, so that they come last.
        for (int height = 0; height <= 5; height++) {
            told.append(' ').append(post.wind(height, 0, 0));
        }
        return told.toString();
    }

    private static void addBalloon(StringBuilder told, SiegePost post, int balloon) {
        for (int what = 0; what <= 11; what++) {
            told.append(post.balloonOf(balloon, what)).append(' ');
        }
        told.append(post.sign(balloon)).append(post.weightAgain(balloon));
        told.append(Script.answerOf(post, "word(" + balloon + ")")).append(' ');
    }
}
