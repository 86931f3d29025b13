/** All that the tests of single promises test, once more at one go, and then that no sentence was left without a test. */
final class SentencesTest {
    private SentencesTest() {
    }

    public static void main(String[] args) {
        NewObjectTest.all();
        WallsTest.all();
        WaysTest.all();
        HavingTest.all();
        LawsTest.all();
        ToldPullsTest.all();
        ImageTest.all();
        ShelvesTest.all();
        RefusalsTest.all();
        for (int section = Document.TERMS; section <= Document.PROMISES; section++) {
            String left = Document.leftOut(section);
            Check.holds("section " + section + " (0: the terms) is told by the tests, all but: " + left, left.isEmpty());
        }
        Check.end();
    }
}
