public final class Promise13LetterTest {
    private static final Due due = new Due();

    public static void main(String[] args) {
        certificate(0, "AAAAAAA");
        certificate(1, "AAAAABG");
        certificate(25, "AAAAAZM");
        certificate(26, "AAAABAF");
        certificate(11881376, "BAAAAAB");
        certificate(99999999, "IKVOZVH");
        for (int number = 7; number <= 99999999 - 999983; number += 999983) {
            certificate(number, expected(number));
        }
        for (int number : new int[] {-1, 100000000, Integer.MIN_VALUE, Integer.MAX_VALUE}) {
            due.throwing("number " + number, IllegalArgumentException.class, World::four, x -> x.letter(number, 0));
            due.throwing("number " + number + " and no letter", IllegalArgumentException.class, World::four,
                    x -> x.letter(number, 7));
        }
        for (int i : new int[] {-1, 7, Integer.MIN_VALUE, Integer.MAX_VALUE}) {
            due.throwing("letter " + i, IndexOutOfBoundsException.class, World::four, x -> x.letter(0, i));
        }
        due.end();
    }

    private static void certificate(int number, String letters) {
        TraderRights x = new TraderRights();
        for (int i = 0; i < 7; i++) {
            due.is("letter(" + number + ", " + i + ")", x.letter(number, i), letters.charAt(i));
        }
    }

    private static String expected(int number) {
        String digits = Integer.toString(number, 26);
        int sum = 0;
        StringBuilder text = new StringBuilder();
        for (int i = 1; i <= 6; i++) {
            int at = digits.length() - 7 + i;
            int value = at < 0 ? 0 : Character.digit(digits.charAt(at), 26);
            text.append("ABCDEFGHIJKLMNOPQRSTUVWXYZ".charAt(value));
            sum += i * value;
        }
        return text.append("ABCDEFGHIJKLMNOPQRSTUVW".charAt(sum % 23)).toString();
    }
}
