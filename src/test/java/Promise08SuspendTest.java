public final class Promise08SuspendTest {
    private static final Due due = new Due();

    public static void main(String[] args) {
        ordinary();
        orderOfTelling();
        wrong();
        full();
        due.end();
    }

    private static void ordinary() {
        TraderRights x = World.four();
        x.right(0, 1, TraderRights.NONE, 0, 100000);
        due.is("suspend(0, 10, true)", x.suspend(0, 10, true), 1);
        due.is("suspend(0, 20, false)", x.suspend(0, 20, false), 2);
        due.is("count(3)", x.count(3), 2);
        due.is("the day before", x.may(0, 1, 0, 9), 0);
        due.is("the first day", x.may(0, 1, 0, 10), 3);
        due.is("the last day", x.may(0, 1, 0, 19), 3);
        due.is("off again", x.may(0, 1, 0, 20), 0);
        due.is("off until the last day", x.look(0, 100000, 1), 0);
        due.is("another trader", x.look(1, 15, 1), 0);
        due.is("off without an on", x.suspend(1, 0, false), 3);
        due.is("it is not suspended then", x.look(1, 0, 1), 0);
        due.is("on the last day of all", x.suspend(2, 100000, true), 4);
        due.is("the day before that", x.look(2, 99999, 1), 0);
        due.is("that day", x.look(2, 100000, 1), 1);
    }

    private static void orderOfTelling() {
        TraderRights x = World.four();
        x.suspend(0, 20, true);
        x.suspend(0, 10, false);
        due.is("the greater day counts, though told before", x.look(0, 20, 1), 1);
        due.is("the lesser one before it", x.look(0, 19, 1), 0);
        x.suspend(0, 20, false);
        due.is("of one day the latest told", x.look(0, 20, 1), 0);
        x.suspend(0, 20, true);
        due.is("and told once more", x.look(0, 20, 1), 1);
        x.suspend(1, 20, false);
        due.is("not another trader's", x.look(0, 20, 1), 1);
        x.suspend(0, 30, false);
        due.is("a later day does not count before", x.look(0, 29, 1), 1);
    }

    private static void wrong() {
        for (int t : World.WRONG_TRADERS) {
            due.throwing("trader " + t, IllegalArgumentException.class, World::four, x -> x.suspend(t, 0, true));
        }
        for (int day : World.WRONG_DAYS) {
            due.throwing("day " + day, IllegalArgumentException.class, World::four, x -> x.suspend(0, day, true));
        }
    }

    private static TraderRights with60() {
        TraderRights x = World.four();
        for (int i = 1; i <= 60; i++) {
            due.is("suspension number " + i, x.suspend(i % 4, i % 7, i % 3 == 0), i);
        }
        return x;
    }

    private static void full() {
        due.throwing("the 61st", IllegalStateException.class, Promise08SuspendTest::with60, x -> x.suspend(0, 0, true));
        due.throwing("the 61st, a wrong one", IllegalArgumentException.class, Promise08SuspendTest::with60,
                x -> x.suspend(4, 0, true));
    }
}
