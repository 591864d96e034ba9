public final class Promise13LetterTest {
    private static final Due due = new Due();

    public static void main(String[] args) {
        due.sentence("Letter i (0 .. 6) of a number's CERTIFICATE.", Promise13LetterTest::letters);
        due.sentence("Letter i (0 .. 6) of a number's CERTIFICATE.", Promise13LetterTest::onlyAsks);
        due.sentence("IllegalArgumentException if there is no such number", Promise13LetterTest::noSuchNumber);
        due.sentence("IndexOutOfBoundsException if there is none such letter", Promise13LetterTest::noneSuchLetter);
        due.end();
    }

    private static void letters() {
        certificate(0, "AAAAAAA");
        certificate(1, "AAAAABG");
        certificate(25, "AAAAAZM");
        certificate(26, "AAAABAF");
        certificate(11881376, "BAAAAAB");
        certificate(99999999, "IKVOZVH");
        for (int number = 7; number <= 99999999 - 999983; number += 999983) {
            certificate(number, expected(number));
        }
    }

    private static void certificate(int number, String letters) {
        TraderRights x = new TraderRights();
        for (int i = 0; i < 7; i++) {
            due.is("letter(" + number + ", " + i + ")", x.letter(number, i), letters.charAt(i));
        }
    }

    private static String expected(int number) {
        String digits = Integer.toString(number, 26);
        int sum = 0;
        StringBuilder text = new StringBuilder();
        for (int i = 1; i <= 6; i++) {
            int at = digits.length() - 7 + i;
            int value = at < 0 ? 0 : Character.digit(digits.charAt(at), 26);
            text.append("ABCDEFGHIJKLMNOPQRSTUVWXYZ".charAt(value));
            sum += i * value;
        }
        return text.append("ABCDEFGHIJKLMNOPQRSTUVW".charAt(sum % 23)).toString();
    }

    private static void onlyAsks() {
        for (int i = 0; i <= 6; i++) {
            int asked = i;
            due.asks("letter(25, " + i + ")", "AAAAAZM".charAt(i), World::busy, x -> x.letter(25, asked));
        }
    }

    private static void noSuchNumber() {
        for (int number : new int[] {-1, 100000000, 100000001, Integer.MIN_VALUE, Integer.MAX_VALUE}) {
            due.throwing("number " + number, IllegalArgumentException.class, World::busy, x -> x.letter(number, 0));
            due.throwing("number " + number, IllegalArgumentException.class, World::busy, x -> x.letter(number, 6));
        }
    }

    private static void noneSuchLetter() {
        for (int i : new int[] {-1, 7, 8, Integer.MIN_VALUE, Integer.MAX_VALUE}) {
            due.throwing("letter " + i, IndexOutOfBoundsException.class, World::busy, x -> x.letter(0, i));
            due.throwing("letter " + i, IndexOutOfBoundsException.class, World::busy, x -> x.letter(99999999, i));
        }
    }
}
