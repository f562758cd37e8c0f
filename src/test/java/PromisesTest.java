/** Answers worked out by hand from the document: ordinary calls, each boundary that it names, wrong calls. */
public final class PromisesTest {
    private static final int PROMISES = 36;

    public static void main(String[] args) {
        TermsCases.run();
        GardenCases.run();
        StudentCases.run();
        ThereIsCases.run();
        PlanCases.run();
        HindsightCases.run();
        NumberCases.run();
        for (int promise = 1; promise <= PROMISES; promise++) {
            boolean isTested = Cases.CHECKS.testsNamed("promise " + promise + ":") > 0;
            Cases.CHECKS.same("whether promise " + promise + " has tests", isTested ? 1 : 0, 1);
        }
        Cases.CHECKS.namesDiffer();
        Cases.CHECKS.finish();
    }
}
