public final class Promise14CheckTest {
    private static final Due due = new Due();

    public static void main(String[] args) {
        due.sentence("A letter is read: 0 if it goes on", Promise14CheckTest::goesOn);
        due.sentence("1 if the certificate is right", Promise14CheckTest::isRight);
        due.sentence("-1 if it is not (a check letter", Promise14CheckTest::wrongCheckLetter);
        due.sentence("a sign", Promise14CheckTest::sign);
        due.sentence("or six letters that are above 99999999)", Promise14CheckTest::tooLarge);
        due.end();
    }

    private static void goesOn() {
        for (String six : new String[] {"AAAAAA", "IKVOZV", "IKVOZW", "ZZZZZZ"}) {
            TraderRights x = new TraderRights();
            for (int i = 0; i < 6; i++) {
                due.is("letter " + i + " of " + six, x.check(six.charAt(i)), 0);
                due.is("letters read", x.count(5), i + 1);
            }
        }
    }

    private static void isRight() {
        for (int number : new int[] {0, 1, 25, 26, 675, 676, 11881375, 11881376, 99999998, 99999999}) {
            TraderRights x = new TraderRights();
            String text = World.letters(x, number);
            due.is(text, World.read(x, text), 1);
            due.is("letters read behind it", x.count(5), 0);
            due.is("its number", x.certified(), number);
            due.is("read once more", World.read(x, text), 1);
        }
    }

    private static void wrongCheckLetter() {
        for (char c = 'A'; c <= 'Z'; c++) {
            TraderRights x = new TraderRights();
            due.is("AAAAAZ" + c, World.read(x, "AAAAAZ" + c), c == 'M' ? 1 : -1);
            due.is("letters read behind it", x.count(5), 0);
            due.is("AAAABAF behind it", World.read(x, "AAAABAF"), 1);
        }
        // X, Y and Z would be A, B and C if the letter were taken modulo 23
        due.is("AAAAAAX", World.read(new TraderRights(), "AAAAAAX"), -1);
        due.is("AAAAAEY", World.read(new TraderRights(), "AAAAAEY"), -1);
    }

    private static void sign() {
        int[] signs = {'A' - 1, 'Z' + 1, 'a', 'm', 'z', '0', 0, -1, 'M' - 256, 'M' + 256, 'M' + 65536,
            Integer.MIN_VALUE, Integer.MAX_VALUE};
        for (int sign : signs) {
            for (int before = 0; before <= 6; before++) {
                TraderRights x = new TraderRights();
                World.read(x, "AAAAAZ".substring(0, before));
                due.is("sign " + sign + " behind " + before, x.check(sign), -1);
                due.is("letters read behind it", x.count(5), 0);
                due.is("certified behind it", x.certified(), -1);
                due.is("a right one behind it", World.read(x, "AAAABAF"), 1);
            }
        }
    }

    private static void tooLarge() {
        // 99999999 is IKVOZV; each of the check letters below would be right
        due.is("IKVOZVH", World.read(new TraderRights(), "IKVOZVH"), 1);
        for (String text : new String[] {"IKVOZWN", "IKVPAAC", "JAAAAAJ", "ZAAAAAC", "ZZZZZZT"}) {
            TraderRights x = new TraderRights();
            due.is("six of " + text, World.read(x, text.substring(0, 6)), 0);
            due.is("letters read", x.count(5), 6);
            due.is("the seventh of " + text, x.check(text.charAt(6)), -1);
            due.is("letters read behind it", x.count(5), 0);
            due.is("certified behind it", x.certified(), -1);
            due.is("a right one behind it", World.read(x, "AAAAAZM"), 1);
        }
    }
}
