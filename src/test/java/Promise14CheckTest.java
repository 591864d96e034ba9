public final class Promise14CheckTest {
    private static final Due due = new Due();

    public static void main(String[] args) {
        right();
        wrongCheckLetters();
        tooLarge();
        signs();
        due.end();
    }

    private static void right() {
        for (int number : new int[] {0, 1, 25, 26, 675, 676, 11881375, 11881376, 99999998, 99999999}) {
            TraderRights x = new TraderRights();
            String text = World.letters(x, number);
            for (int i = 0; i < 6; i++) {
                due.is("letter " + i + " of " + text, x.check(text.charAt(i)), 0);
                due.is("letters read", x.count(5), i + 1);
            }
            due.is("check letter of " + text, x.check(text.charAt(6)), 1);
            due.is("letters read behind it", x.count(5), 0);
            due.is("read once more", World.read(x, text), 1);
        }
    }

    private static void wrongCheckLetters() {
        for (char c = 'A'; c <= 'Z'; c++) {
            TraderRights x = new TraderRights();
            due.is("AAAAAZ" + c, World.read(x, "AAAAAZ" + c), c == 'M' ? 1 : -1);
            due.is("letters read behind it", x.count(5), 0);
            due.is("AAAABAF behind it", World.read(x, "AAAABAF"), 1);
        }
    }

    private static void tooLarge() {
        // 99999999 is IKVOZV; the check letters below would be right
        due.is("IKVOZV with its check letter", World.read(new TraderRights(), "IKVOZVH"), 1);
        due.is("IKVOZW", World.read(new TraderRights(), "IKVOZW"), 0);
        due.is("IKVOZW with its check letter", World.read(new TraderRights(), "IKVOZWN"), -1);
        due.is("ZZZZZZ", World.read(new TraderRights(), "ZZZZZZ"), 0);
        due.is("ZZZZZZ with its check letter", World.read(new TraderRights(), "ZZZZZZT"), -1);
        TraderRights x = new TraderRights();
        World.read(x, "ZZZZZZT");
        due.is("letters read behind one too large", x.count(5), 0);
        due.is("a right one behind one too large", World.read(x, "AAAAAZM"), 1);
    }

    private static void signs() {
        int[] signs = {'@', '[', 'a', 'z', '0', 0, -1, 'A' + 256, 'A' + 65536, Integer.MIN_VALUE, Integer.MAX_VALUE};
        for (int sign : signs) {
            for (int before = 0; before <= 6; before++) {
                TraderRights x = new TraderRights();
                World.read(x, "BAAAAZ".substring(0, before));
                due.is("sign " + sign + " behind " + before, x.check(sign), -1);
                due.is("letters read behind it", x.count(5), 0);
                due.is("a right one behind it", World.read(x, "AAAAAZM"), 1);
                due.is("its number", x.certified(), 25);
            }
        }
    }
}
