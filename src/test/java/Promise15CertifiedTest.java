public final class Promise15CertifiedTest {
    private static final Due due = new Due();

    public static void main(String[] args) {
        due.sentence("Of the latest certificate that was right its number", Promise15CertifiedTest::latest);
        due.sentence("Of the latest certificate that was right its number", Promise15CertifiedTest::notOfWrongOnes);
        due.sentence("Of the latest certificate that was right its number", Promise15CertifiedTest::firstAndLast);
        due.sentence("NONE without", Promise15CertifiedTest::without);
        due.sentence("Of the latest certificate that was right its number", Promise15CertifiedTest::onlyAsks);
        due.end();
    }

    private static void latest() {
        TraderRights x = new TraderRights();
        World.read(x, "AAAAAZM");
        due.is("behind a right one", x.certified(), 25);
        World.read(x, "AAAABA");
        due.is("while the next one is read", x.certified(), 25);
        World.read(x, "F");
        due.is("behind the next right one", x.certified(), 26);
        World.read(x, "AAAAAZM");
        due.is("behind a lesser one", x.certified(), 25);
        World.read(x, "AAAAAAA");
        due.is("behind number 0", x.certified(), 0);
    }

    private static void notOfWrongOnes() {
        TraderRights x = new TraderRights();
        World.read(x, "AAAABAF");
        for (String wrong : new String[] {"AAAAAZA", "IKVOZWN", "ZZZZZZT", "0", "AAAAAZ0", "A["}) {
            World.read(x, wrong);
            due.is("behind " + wrong, x.certified(), 26);
        }
    }

    private static void firstAndLast() {
        TraderRights x = new TraderRights();
        for (int number : new int[] {0, 99999999, 12345678, 99999998, 0}) {
            due.is("a right one", World.read(x, World.letters(x, number)), 1);
            due.is("its number", x.certified(), number);
        }
    }

    private static void without() {
        due.is("nothing read", new TraderRights().certified(), -1);
        for (String text : new String[] {"A", "AAAAAZ", "AAAAAZA", "IKVOZWN", "ZZZZZZT", "0"}) {
            TraderRights x = new TraderRights();
            World.read(x, text);
            due.is("behind " + text, x.certified(), -1);
        }
    }

    private static void onlyAsks() {
        due.asks("certified", 25, World::busy, x -> x.certified());
        due.asks("certified without", -1, World::four, x -> x.certified());
    }
}
