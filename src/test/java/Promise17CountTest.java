public final class Promise17CountTest {
    private static final Due due = new Due();

    public static void main(String[] args) {
        due.sentence("what 0: traders, 1: rights, 2: mandates, 3: suspensions", Promise17CountTest::rows);
        due.sentence("what 0: traders, 1: rights, 2: mandates, 3: suspensions", Promise17CountTest::full);
        due.sentence("4: acts that need two, as bits", Promise17CountTest::bits);
        due.sentence("5: letters read of a certificate so far", Promise17CountTest::letters);
        due.sentence("NONE for another what", Promise17CountTest::another);
        due.sentence("Promise 17: count", Promise17CountTest::onlyAsks);
        due.end();
    }

    private static void rows() {
        TraderRights x = World.withTraders(5);
        x.right(0, 0, 0, 0, 0);
        x.right(0, 0, 0, 0, 0);
        for (int i = 0; i < 3; i++) {
            x.mandate(i, i + 1, i == 0, i);
        }
        for (int i = 0; i < 4; i++) {
            x.suspend(i / 2, i, i % 2 == 0);
        }
        due.is("traders", x.count(0), 5);
        due.is("rights", x.count(1), 2);
        due.is("mandates", x.count(2), 3);
        due.is("suspensions", x.count(3), 4);
        x.end(0, 0);
        due.is("traders, an ended one too", x.count(0), 5);
    }

    private static void full() {
        int[] want = {12, 60, 60, 60};
        for (int what = 0; what <= 3; what++) {
            int asked = what;
            due.asks("count " + what, want[what], World::full, x -> x.count(asked));
        }
    }

    private static void bits() {
        TraderRights x = new TraderRights();
        due.is("none", x.count(4), 0);
        x.two(0, true);
        due.is("act 0", x.count(4), 1);
        x.two(7, true);
        due.is("acts 0 and 7", x.count(4), 129);
        x.two(0, false);
        due.is("act 7", x.count(4), 128);
        for (int act = 0; act <= 6; act++) {
            x.two(act, true);
        }
        due.is("all acts", x.count(4), 255);
    }

    private static void letters() {
        TraderRights x = new TraderRights();
        for (int i = 0; i < 15; i++) {
            due.is("letters", x.count(5), i % 7);
            x.check('Z');
        }
        x.check('?');
        due.is("behind a sign", x.count(5), 0);
    }

    private static void another() {
        for (int what : new int[] {-1, 6, 7, 32, Integer.MIN_VALUE, Integer.MAX_VALUE}) {
            due.is("count(" + what + ") of a new one", new TraderRights().count(what), -1);
            due.is("count(" + what + ") of a full one", World.full().count(what), -1);
        }
    }

    private static void onlyAsks() {
        int[] want = {8, 4, 2, 2, 2, 3, -1};
        for (int what = 0; what <= 6; what++) {
            int asked = what;
            due.asks("count " + what, want[what], World::busy, x -> x.count(asked));
        }
    }
}
