/** Runs every test of the project; ends with exit code 1 if an answer was not the one that is due. */
public final class AllTests {
    private AllTests() {
    }

    public static void main(String[] args) throws Exception {
        PlatesTest.run();
        SettingsTest.run();
        PairTest.run();
        AllPlatesTest.run();
        SearchTest.run();
        HistoryTest.run();
        PlateBoundaries.run();
        SettingBoundaries.run();
        PairBoundaries.run();
        RankBoundaries.run();
        AllPlateBoundaries.run();
        SearchBoundaries.run();
        HistoryBoundaries.run();
        ErrorBoundaries.run();
        LifeBoundaries.run();
        FaceTest.run();
        TermSentences.run();
        PromiseSentences.run();
        Boundary.checkAll();
        Sentence.checkAll();
        Quotes.checkAll();
        DocumentTest.run();
        ReadmeTest.run();
        RandomRunsTest.run();
        LanguageTest.run();
        LanguageTreeTest.run();
        System.out.println(Check.right() + " answers right, " + Check.wrong() + " wrong");
        System.exit(Check.wrong() == 0 && Check.right() > 0 ? 0 : 1);
    }
}
