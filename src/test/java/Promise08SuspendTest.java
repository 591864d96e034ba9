public final class Promise08SuspendTest {
    private static final Due due = new Due();

    public static void main(String[] args) {
        due.sentence("A SUSPENSION: how many there are.", Promise08SuspendTest::howMany);
        due.sentence("IllegalArgumentException if there is no such trader or day", Promise08SuspendTest::noSuchTrader);
        due.sentence("IllegalArgumentException if there is no such trader or day", Promise08SuspendTest::noSuchDay);
        due.sentence("IllegalStateException if there are 60", Promise08SuspendTest::thereAre60);
        due.end();
    }

    private static void howMany() {
        TraderRights x = World.four();
        due.is("on", x.suspend(0, 10, true), 1);
        due.is("on, the same again", x.suspend(0, 10, true), 2);
        due.is("off", x.suspend(0, 20, false), 3);
        due.is("off without on", x.suspend(1, 0, false), 4);
        due.is("on the last day, the last trader", x.suspend(3, 100000, true), 5);
        due.is("count(3)", x.count(3), 5);
        due.is("it is suspended", x.look(0, 10, 1), 1);
        x.end(2, 0);
        due.is("of an ended one", x.suspend(2, 5, true), 6);
    }

    private static void noSuchTrader() {
        for (int t : World.WRONG_TRADERS) {
            due.throwing("on, trader " + t, IllegalArgumentException.class, World::four, x -> x.suspend(t, 0, true));
            due.throwing("off, trader " + t, IllegalArgumentException.class, World::four, x -> x.suspend(t, 0, false));
        }
    }

    private static void noSuchDay() {
        for (int day : World.WRONG_DAYS) {
            due.throwing("on, day " + day, IllegalArgumentException.class, World::four, x -> x.suspend(0, day, true));
            due.throwing("off, day " + day, IllegalArgumentException.class, World::four, x -> x.suspend(0, day, false));
        }
        due.is("the first day", World.four().suspend(0, 0, true), 1);
        due.is("the last day", World.four().suspend(0, 100000, true), 1);
    }

    private static void thereAre60() {
        TraderRights x = World.four();
        for (int i = 1; i <= 60; i++) {
            due.is("suspension number " + i, x.suspend(i % 4, i % 7, i % 3 == 0), i);
        }
        due.throwing("the 61st, on", IllegalStateException.class, World::full, y -> y.suspend(0, 0, true));
        due.throwing("the 61st, off", IllegalStateException.class, World::full, y -> y.suspend(11, 100000, false));
    }
}
