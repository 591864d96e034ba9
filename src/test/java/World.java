/** Objects to begin a test with, arguments that are wrong, and short forms of long rows of calls. */
final class World {
    static final int[] WRONG_DAYS = {-1, 100001, Integer.MIN_VALUE, Integer.MAX_VALUE};
    /** As bits of an int, or cut to a byte, the later ones would fall on acts that there are. */
    static final int[] WRONG_ACTS = {-1, 8, 32, 35, 256, Integer.MIN_VALUE, Integer.MAX_VALUE};
    /** For a may or a done; a right can have NONE as well. */
    static final int[] WRONG_PLACES = {-1, -2, 8, 32, 256, Integer.MIN_VALUE, Integer.MAX_VALUE};
    /** For an object with four traders. */
    static final int[] WRONG_TRADERS = {-1, 4, 11, 12, 32, 256, Integer.MIN_VALUE, Integer.MAX_VALUE};

    static final int ANYWHERE = TraderRights.NONE;
    static final int LAST_DAY = 100000;

    private World() {
    }

    static TraderRights withTraders(int n) {
        TraderRights x = new TraderRights();
        for (int i = 0; i < n; i++) {
            x.trader();
        }
        return x;
    }

    static TraderRights four() {
        return withTraders(4);
    }

    static TraderRights twelve() {
        return withTraders(12);
    }

    /** Eight traders with something told of every kind; a certificate was right and one is half read. */
    static TraderRights busy() {
        TraderRights x = withTraders(8);
        tellOfEveryKind(x);
        x.right(0, 1, ANYWHERE, 0, LAST_DAY);
        x.right(1, 2, 0, 5, 5);
        x.right(2, 0, ANYWHERE, 0, 9);
        x.right(7, 0, 7, 0, LAST_DAY);
        x.mandate(0, 6, true, 50);
        x.mandate(0, 7, false, 50);
        x.suspend(1, 4, true);
        x.suspend(1, 7, false);
        return x;
    }

    /** Twelve traders and 60 rows of each kind, with something told of every other kind, too. */
    static TraderRights full() {
        TraderRights x = twelve();
        tellOfEveryKind(x);
        for (int i = 0; i < 60; i++) {
            x.right(i % 12, i / 12, ANYWHERE, i % 4, 9);
            x.mandate(i % 12, (i + 1 + i / 12) % 12, i % 2 == 0, i % 9);
            x.suspend(i % 12, i % 7, i % 3 == 0);
        }
        return x;
    }

    private static void tellOfEveryKind(TraderRights x) {
        x.forbid(0, 2, true);
        x.forbid(3, 1, true);
        x.group(3, 0);
        x.group(4, 3);
        x.deputy(0, 5);
        x.end(2, 8);
        x.two(1, true);
        read(x, "AAAAAZM");
        read(x, "AAA");
    }

    /** Reads a text as a certificate, and tells what the last sign of it was answered. */
    static int read(TraderRights x, String text) {
        int answer = 0;
        for (int i = 0; i < text.length(); i++) {
            answer = x.check(text.charAt(i));
        }
        return answer;
    }

    static String letters(TraderRights x, int number) {
        StringBuilder text = new StringBuilder();
        for (int i = 0; i < 7; i++) {
            text.append((char) x.letter(number, i));
        }
        return text.toString();
    }
}
