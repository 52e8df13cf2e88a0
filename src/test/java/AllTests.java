/** Runs every test of the project; the exit code is 1 if one failed. */
public final class AllTests {
    public static void main(String[] arguments) throws Exception {
        Check check = new Check();
        FaceTest.test(check);
        ArmsTest.test(check);
        LoadsTest.test(check);
        TicksTest.test(check);
        TextsTest.test(check);
        HistoryTest.test(check);
        TellTest.test(check);
        TrialTest.test(check);
        EdgesTest.test(check, "src/test/edges.txt", "../shared/DOC.md");
        EdgesTest.readme(check, "README.md");
        TwinTest.test(check);
        LanguageTest.test(check, arguments.length > 0 ? arguments[0] : "src/main/java/LentArms.java");
        check.tell();
        System.exit(check.failed() == 0 ? 0 : 1);
    }
}
