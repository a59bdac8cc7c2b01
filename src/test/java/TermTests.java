/** The Terms, sentence by sentence: each that tells a bound has a test of its own. */
public final class TermTests {
    public static void main(String[] args) {
        TermsOfTexts.run();
        TermsOfDeeds.run();
        TermsOfPlans.run();
        TermsOfRefusals.run();
        Doc.noneLeft(Doc.TERMS, Doc.TERMS);
        Check.end();
    }
}
