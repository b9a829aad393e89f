/** The sentences of the promises, each with tests of its own for the boundary cases that it names. */
public final class BoundariesTest {
    public static void main(String[] args) {
        ChangePromises.hold();
        AnswerPromises.hold();
        Sentences.end("Promise");
    }
}
