public final class Promise02TraderTest {
    private static final Due due = new Due();

    public static void main(String[] args) {
        due.sentence("One more trader: its number.", Promise02TraderTest::itsNumber);
        due.sentence("One more trader: its number.", Promise02TraderTest::nothingIsToldOfIt);
        due.sentence("IllegalStateException if there are 12.", Promise02TraderTest::thereAre12);
        due.end();
    }

    private static void itsNumber() {
        TraderRights x = new TraderRights();
        for (int i = 0; i < 12; i++) {
            due.is("may before trader() number " + i, x.may(i, 0, 0, 0), 1);
            due.is("trader() number " + i, x.trader(), i);
            due.is("count(0)", x.count(0), i + 1);
            due.is("may behind it", x.may(i, 0, 0, 0), 7);
        }
    }

    private static void nothingIsToldOfIt() {
        for (int before = 0; before < 12; before++) {
            TraderRights x = World.withTraders(before);
            for (int t = 0; t + 1 < before; t++) {
                x.right(t, 1, World.ANYWHERE, 0, 100000);
                x.forbid(t, 1, true);
                x.suspend(t, 0, true);
                x.end(t, 0);
            }
            int t = x.trader();
            for (int day : new int[] {0, 100000}) {
                for (int what = 0; what <= 6; what++) {
                    due.is("look " + what + " of a new one", x.look(t, day, what), what == 4 || what == 5 ? -1 : 0);
                }
                due.is("may of a new one", x.may(t, 1, 0, day), 7);
            }
        }
    }

    private static void thereAre12() {
        due.is("the 12th", World.withTraders(11).trader(), 11);
        due.throwing("the 13th", IllegalStateException.class, World::twelve, x -> x.trader());
        due.throwing("the 13th, much told", IllegalStateException.class, World::full, x -> x.trader());
    }
}
