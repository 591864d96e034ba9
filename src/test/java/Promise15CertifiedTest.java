public final class Promise15CertifiedTest {
    public static void main(String[] args) {
        Due due = new Due();
        TraderRights x = new TraderRights();
        due.is("without", x.certified(), -1);
        World.read(x, "AAAAAZ");
        due.is("before the check letter", x.certified(), -1);
        World.read(x, "A");
        due.is("behind a wrong one", x.certified(), -1);
        World.read(x, "AAAAAZM");
        due.is("behind a right one", x.certified(), 25);
        World.read(x, "AAAABA");
        due.is("while the next one is read", x.certified(), 25);
        World.read(x, "F");
        due.is("behind the next right one", x.certified(), 26);
        World.read(x, "AAAAAZA");
        due.is("behind a wrong check letter", x.certified(), 26);
        World.read(x, "ZZZZZZT");
        due.is("behind one too large", x.certified(), 26);
        World.read(x, "A0");
        due.is("behind a sign", x.certified(), 26);
        for (int number : new int[] {0, 99999999, 12345678}) {
            due.is("a right one", World.read(x, World.letters(x, number)), 1);
            due.is("its number", x.certified(), number);
        }
        due.end();
    }
}
