import java.util.function.Supplier;

/** Terms: the first and the last day, act and place, and those beside them, in every call that takes one. */
public final class TermsDaysActsPlacesTest {
    private static final Class<? extends RuntimeException> ARGUMENT = IllegalArgumentException.class;
    private static final Supplier<TraderRights> FOUR = World::four;
    private static final Due due = new Due();

    public static void main(String[] args) {
        due.sentence("DAYS are 0 .. 100000", TermsDaysActsPlacesTest::firstAndLastDay);
        due.sentence("DAYS are 0 .. 100000", TermsDaysActsPlacesTest::wrongDays);
        due.sentence("ACTS 0 .. 7", TermsDaysActsPlacesTest::everyAct);
        due.sentence("ACTS 0 .. 7", TermsDaysActsPlacesTest::wrongActs);
        due.sentence("PLACES 0 .. 7", TermsDaysActsPlacesTest::everyPlace);
        due.sentence("PLACES 0 .. 7", TermsDaysActsPlacesTest::wrongPlaces);
        due.end();
    }

    private static void firstAndLastDay() {
        for (int day : new int[] {0, 1, 99999, 100000}) {
            TraderRights x = World.four();
            due.is("right on " + day, x.right(0, 1, 2, day, day), 1);
            due.is("mandate until " + day, x.mandate(0, 1, true, day), 1);
            due.is("may on " + day, x.may(0, 1, 2, day), 0);
            due.is("may by a mandate on " + day, x.may(1, 1, 2, day), 0);
            due.is("done on " + day, x.done(1, 2, day, 0, 0), 0);
            due.is("suspend on " + day, x.suspend(2, day, true), 1);
            due.yes("end on " + day, x.end(3, day));
            due.is("ended on " + day, x.look(3, day, 0), 1);
            due.is("suspended on " + day, x.look(2, day, 1), 1);
            for (int what = 0; what <= 3; what++) {
                due.is("look " + what + " on " + day, x.look(0, day, what), what == 3 ? 1 : 0);
            }
            due.is("mandates on " + day, x.look(1, day, 6), 1);
        }
        TraderRights x = World.four();
        due.is("right of all days", x.right(0, 1, 2, 0, 100000), 1);
        due.is("its first day", x.may(0, 1, 2, 0), 0);
        due.is("its last day", x.may(0, 1, 2, 100000), 0);
    }

    private static void wrongDays() {
        for (int day : World.WRONG_DAYS) {
            due.throwing("right from " + day, ARGUMENT, FOUR, x -> x.right(0, 0, 0, day, 100000));
            due.throwing("right to " + day, ARGUMENT, FOUR, x -> x.right(0, 0, 0, 0, day));
            due.throwing("right on " + day, ARGUMENT, FOUR, x -> x.right(0, 0, 0, day, day));
            due.throwing("mandate until " + day, ARGUMENT, FOUR, x -> x.mandate(0, 1, true, day));
            due.throwing("suspend on " + day, ARGUMENT, FOUR, x -> x.suspend(0, day, true));
            due.throwing("suspend off " + day, ARGUMENT, FOUR, x -> x.suspend(0, day, false));
            due.refused("end on " + day, FOUR, x -> x.end(0, day));
            due.asks("may on " + day, 1, World::busy, x -> x.may(0, 1, 0, day));
            due.asks("done on " + day, 1, World::busy, x -> x.done(1, 0, day, 0, 6));
            for (int what = 0; what <= 6; what++) {
                int asked = what;
                due.throwing("look " + what + " on " + day, ARGUMENT, FOUR, x -> x.look(0, day, asked));
            }
        }
    }

    private static void everyAct() {
        for (int act = 0; act <= 7; act++) {
            TraderRights x = World.four();
            due.is("right for " + act, x.right(0, act, 2, 5, 5), 1);
            due.yes("forbid " + act, x.forbid(1, act, true));
            due.yes("two for " + act, x.two(act, true));
            due.is("acts that need two", x.count(4), 1 << act);
            due.is("acts of its own", x.look(0, 5, 3), 1);
            for (int other = 0; other <= 7; other++) {
                boolean same = other == act;
                due.is("may " + other + ", told " + act, x.may(0, other, 2, 5), same ? 0 : 7);
                due.is("forbidden " + other + ", told " + act, x.may(1, other, 2, 5), same ? 4 : 7);
                due.is("done " + other + ", told " + act, x.done(other, 2, 5, 0, 0), same ? 3 : 1);
            }
        }
    }

    private static void wrongActs() {
        for (int act : World.WRONG_ACTS) {
            due.throwing("right for " + act, ARGUMENT, FOUR, x -> x.right(0, act, 0, 0, 0));
            due.refused("forbid " + act, FOUR, x -> x.forbid(0, act, true));
            due.refused("forbid no more " + act, World::busy, x -> x.forbid(0, act, false));
            due.refused("two for " + act, FOUR, x -> x.two(act, true));
            due.refused("two no more for " + act, World::busy, x -> x.two(act, false));
            due.asks("may " + act, 1, World::busy, x -> x.may(0, act, 0, 5));
            due.asks("done " + act, 1, World::busy, x -> x.done(act, 0, 5, 0, 6));
        }
    }

    private static void everyPlace() {
        for (int place = 0; place <= 7; place++) {
            TraderRights x = World.four();
            due.is("right at " + place, x.right(0, 1, place, 5, 5), 1);
            due.is("acts of its own", x.look(0, 5, 3), 1);
            for (int other = 0; other <= 7; other++) {
                boolean same = other == place;
                due.is("may at " + other + ", told " + place, x.may(0, 1, other, 5), same ? 0 : 7);
                due.is("done at " + other + ", told " + place, x.done(1, other, 5, 0, 1), same ? 0 : 1);
            }
        }
    }

    private static void wrongPlaces() {
        for (int place : World.WRONG_PLACES) {
            if (place != TraderRights.NONE) {
                due.throwing("right at " + place, ARGUMENT, FOUR, x -> x.right(0, 0, place, 0, 0));
            }
            due.asks("may at " + place, 1, World::busy, x -> x.may(0, 1, place, 5));
            due.asks("done at " + place, 1, World::busy, x -> x.done(1, place, 5, 0, 6));
        }
    }
}
