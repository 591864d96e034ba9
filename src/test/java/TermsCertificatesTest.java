/** Terms: certificates, their letters, and where reading begins anew. */
public final class TermsCertificatesTest {
    private static final int[] NO_LETTERS = {'@', '[', 'a', 'z', '0', ' ', 0, -1, 'A' - 256, 'A' + 256, 'A' + 65536,
        Integer.MIN_VALUE, Integer.MIN_VALUE + 'A', Integer.MAX_VALUE};
    private static final Due due = new Due();

    public static void main(String[] args) {
        due.sentence("a number 0 .. 99999999 has seven letters", TermsCertificatesTest::firstAndLastNumber);
        due.sentence("a number 0 .. 99999999 has seven letters", TermsCertificatesTest::sevenLetters);
        due.sentence("six for its digits to the base 26, the highest first (A 0 .. Z 25)",
                TermsCertificatesTest::digits);
        due.sentence("six for its digits to the base 26, the highest first (A 0 .. Z 25)",
                TermsCertificatesTest::carries);
        due.sentence("the sum of 1 times the first, 2 times the second, .. 6 times the sixth",
                TermsCertificatesTest::weights);
        due.sentence("modulo 23", TermsCertificatesTest::modulo);
        due.sentence("A letter is read one by one", TermsCertificatesTest::oneByOne);
        due.sentence("the seventh tells whether all is right", TermsCertificatesTest::theSeventhTells);
        due.sentence("behind that, or behind a sign that is no letter A .. Z, reading begins anew",
                TermsCertificatesTest::anewBehindTheSeventh);
        due.sentence("behind that, or behind a sign that is no letter A .. Z, reading begins anew",
                TermsCertificatesTest::anewBehindASign);
        due.end();
    }

    private static void firstAndLastNumber() {
        due.is("letters of 0", compare(0, "AAAAAAA"), 0);
        due.is("letters of 99999999", compare(99999999, "IKVOZVH"), 0);
        for (int number : new int[] {-1, 100000000, Integer.MIN_VALUE, Integer.MAX_VALUE}) {
            for (int i = 0; i <= 6; i++) {
                int asked = i;
                due.throwing("letter " + i + " of " + number, IllegalArgumentException.class, World::busy,
                        x -> x.letter(number, asked));
            }
        }
    }

    private static int compare(int number, String letters) {
        return World.letters(new TraderRights(), number).compareTo(letters);
    }

    private static void sevenLetters() {
        for (int number : new int[] {0, 25, 99999999}) {
            due.yes("letter 0", new TraderRights().letter(number, 0) >= 'A');
            due.yes("letter 6", new TraderRights().letter(number, 6) >= 'A');
            for (int i : new int[] {-1, 7, 8, Integer.MIN_VALUE, Integer.MAX_VALUE}) {
                due.throwing("letter " + i, IndexOutOfBoundsException.class, World::busy, x -> x.letter(number, i));
            }
        }
    }

    private static void digits() {
        int power = 1;
        for (int place = 5; place >= 0; place--) {
            int most = place == 0 ? 8 : 25;
            for (int value = 0; value <= most; value++) {
                TraderRights x = new TraderRights();
                for (int i = 0; i < 6; i++) {
                    due.is("letter " + i + " of " + value * power, x.letter(value * power, i),
                            i == place ? 'A' + value : 'A');
                }
            }
            power *= 26;
        }
    }

    private static void carries() {
        due.is("25", compare(25, "AAAAAZM"), 0);
        due.is("26", compare(26, "AAAABAF"), 0);
        due.is("26 * 26 - 1", compare(675, "AAAAZZW"), 0);
        due.is("26 * 26", compare(676, "AAABAAE"), 0);
        due.is("26 to the 5th less 1", compare(11881375, "AZZZZZR"), 0);
        due.is("26 to the 5th", compare(11881376, "BAAAAAB"), 0);
        due.is("the last but one", compare(99999998, "IKVOZUB"), 0);
    }

    private static void weights() {
        int power = 1;
        for (int place = 6; place >= 1; place--) {
            due.is("check letter, letter " + place + " is B", new TraderRights().letter(power, 6), 'A' + place);
            due.is("check letter, letter " + place + " is D", new TraderRights().letter(3 * power, 6), 'A' + 3 * place);
            power *= 26;
        }
    }

    private static void modulo() {
        due.is("a sum of 22", compare(26 * 26 + 3, "AAABADW"), 0);
        due.is("a sum of 23", compare(26 + 3, "AAAABDA"), 0);
        due.is("a sum of 24", compare(4, "AAAAAEB"), 0);
        due.is("a sum of 45", compare(3 * 26 + 5, "AAAADFW"), 0);
        due.is("a sum of 46", compare(2 * 26 + 6, "AAAACGA"), 0);
        due.is("a sum of 138", compare(23, "AAAAAXA"), 0);
        due.is("the greatest sum of two letters", compare(675, "AAAAZZW"), 0);
        TraderRights x = new TraderRights();
        for (int number = 0; number < 500; number++) {
            int check = x.letter(number * 199999, 6);
            due.yes("check letter " + check, check >= 'A' && check <= 'W');
        }
    }

    private static void oneByOne() {
        TraderRights x = new TraderRights();
        String text = "IKVOZV";
        for (int i = 0; i < 6; i++) {
            due.is("letters read", x.count(5), i);
            due.is("letter " + i, x.check(text.charAt(i)), 0);
            due.is("certified", x.certified(), -1);
        }
        due.is("letters read", x.count(5), 6);
        for (int c = 'A'; c <= 'Z'; c++) {
            due.is("letter " + c, new TraderRights().check(c), 0);
        }
    }

    private static void theSeventhTells() {
        String[] rights = {"AAAAAAA", "AAAAAZM", "AAABADW", "AAAABDA", "IKVOZVH"};
        for (String right : rights) {
            for (char c = 'A'; c <= 'Z'; c++) {
                TraderRights x = new TraderRights();
                due.is("behind six", World.read(x, right.substring(0, 6)), 0);
                due.is(right + " read with " + c, x.check(c), c == right.charAt(6) ? 1 : -1);
            }
        }
        // the letters of 100000000 and of the greatest number of six letters, with the check letters of these
        due.is("one above 99999999", World.read(new TraderRights(), "IKVOZWN"), -1);
        due.is("the greatest of six letters", World.read(new TraderRights(), "ZZZZZZT"), -1);
        due.is("the least with a higher first letter", World.read(new TraderRights(), "JAAAAAJ"), -1);
    }

    private static void anewBehindTheSeventh() {
        for (String before : new String[] {"AAAAAZM", "AAAAAZN", "IKVOZWN", "ZZZZZZT", "ZZZZZZZ"}) {
            TraderRights x = new TraderRights();
            World.read(x, before);
            due.is("letters read behind " + before, x.count(5), 0);
            due.is("the first letter behind " + before, x.check('A'), 0);
            due.is("letters read then", x.count(5), 1);
            due.is("the rest of a right one", World.read(x, "AAABAF"), 1);
            due.is("its number", x.certified(), 26);
        }
        TraderRights y = new TraderRights();
        for (int round = 0; round < 60; round++) {
            due.is("a right one, round " + round, World.read(y, "IKVOZVH"), 1);
        }
    }

    private static void anewBehindASign() {
        for (int sign : NO_LETTERS) {
            for (int before = 0; before <= 6; before++) {
                TraderRights x = new TraderRights();
                World.read(x, "BCDEFG".substring(0, before));
                due.is("sign " + sign + " behind " + before, x.check(sign), -1);
                due.is("letters read behind sign " + sign, x.count(5), 0);
                due.is("once more", x.check(sign), -1);
                due.is("a right one behind it", World.read(x, "AAAAAZM"), 1);
                due.is("its number", x.certified(), 25);
            }
        }
    }
}
