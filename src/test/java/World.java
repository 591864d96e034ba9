/** Objects to begin a test with, and what can be seen of one. */
final class World {
    static final int[] WRONG_DAYS = {-1, 100001, Integer.MIN_VALUE, Integer.MAX_VALUE};
    static final int[] WRONG_ACTS = {-1, 8, Integer.MIN_VALUE, Integer.MAX_VALUE};
    /** For an object with four traders. */
    static final int[] WRONG_TRADERS = {-1, 4, 11, 12, 32, Integer.MIN_VALUE, Integer.MAX_VALUE};

    private World() {
    }

    static TraderRights withTraders(int n) {
        TraderRights x = new TraderRights();
        for (int i = 0; i < n; i++) {
            x.trader();
        }
        return x;
    }

    static TraderRights four() {
        return withTraders(4);
    }

    static String seen(TraderRights x) {
        StringBuilder all = new StringBuilder();
        for (int what = 0; what <= 5; what++) {
            all.append(x.count(what)).append(' ');
        }
        all.append(x.certified()).append(':');
        int shown = Math.min(4, x.count(0));
        for (int t = 0; t < shown; t++) {
            for (int what = 0; what <= 6; what++) {
                all.append(' ').append(x.look(t, 5, what));
            }
            for (int act = 0; act <= 7; act++) {
                all.append(' ').append(x.may(t, act, 0, 5));
            }
        }
        return all.toString();
    }

    /** Reads a text as a certificate, and tells what the last sign of it was answered. */
    static int read(TraderRights x, String text) {
        int answer = 0;
        for (int i = 0; i < text.length(); i++) {
            answer = x.check(text.charAt(i));
        }
        return answer;
    }

    static String letters(TraderRights x, int number) {
        StringBuilder text = new StringBuilder();
        for (int i = 0; i < 7; i++) {
            text.append((char) x.letter(number, i));
        }
        return text.toString();
    }
}
