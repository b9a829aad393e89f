/** The sentences of the section "Terms", each with tests of its own for the boundary cases that it names. */
public final class TermsTest {
    public static void main(String[] args) {
        FlightTerms.hold();
        OrderTerms.hold();
        Sentences.end("Terms");
    }
}
