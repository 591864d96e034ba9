import java.util.function.ToLongFunction;

public final class Promise03RightTest {
    private static final Due due = new Due();

    public static void main(String[] args) {
        due.sentence("A RIGHT: how many there are.", Promise03RightTest::howMany);
        due.sentence("IllegalArgumentException if there is no such trader", Promise03RightTest::noSuchTrader);
        due.sentence("no such trader, act", Promise03RightTest::noSuchAct);
        due.sentence("place (or NONE)", Promise03RightTest::noSuchPlace);
        due.sentence("place (or NONE)", Promise03RightTest::noneIsAPlace);
        due.sentence("day, or from is behind to", Promise03RightTest::noSuchDay);
        due.sentence("or from is behind to", Promise03RightTest::fromBehindTo);
        due.sentence("IllegalStateException if there are 60", Promise03RightTest::thereAre60);
        due.end();
    }

    private static void illegal(String what, ToLongFunction<TraderRights> asking) {
        due.throwing("right with " + what, IllegalArgumentException.class, World::four, asking);
    }

    private static void howMany() {
        TraderRights x = World.four();
        due.is("first", x.right(0, 0, 0, 0, 0), 1);
        due.is("last of everything", x.right(3, 7, 7, 100000, 100000), 2);
        due.is("the same row again", x.right(3, 7, 7, 100000, 100000), 3);
        due.is("of one to whom it is forbidden", forbiddenAndEnded().right(0, 1, 0, 0, 0), 1);
        due.is("count(1)", x.count(1), 3);
    }

    private static TraderRights forbiddenAndEnded() {
        TraderRights x = World.four();
        x.forbid(0, 1, true);
        x.end(0, 0);
        return x;
    }

    private static void noSuchTrader() {
        for (int t : World.WRONG_TRADERS) {
            illegal("trader " + t, x -> x.right(t, 0, 0, 0, 0));
        }
        due.is("the first trader", World.four().right(0, 0, 0, 0, 0), 1);
        due.is("the last trader", World.four().right(3, 0, 0, 0, 0), 1);
    }

    private static void noSuchAct() {
        for (int act : World.WRONG_ACTS) {
            illegal("act " + act, x -> x.right(0, act, 0, 0, 0));
        }
        due.is("the first act", World.four().right(0, 0, 0, 0, 0), 1);
        due.is("the last act", World.four().right(0, 7, 0, 0, 0), 1);
    }

    private static void noSuchPlace() {
        for (int place : World.WRONG_PLACES) {
            if (place != TraderRights.NONE) {
                illegal("place " + place, x -> x.right(0, 0, place, 0, 0));
            }
        }
        due.is("the first place", World.four().right(0, 0, 0, 0, 0), 1);
        due.is("the last place", World.four().right(0, 0, 7, 0, 0), 1);
    }

    private static void noneIsAPlace() {
        due.is("NONE", World.four().right(0, 0, TraderRights.NONE, 0, 0), 1);
    }

    private static void noSuchDay() {
        for (int day : World.WRONG_DAYS) {
            illegal("from " + day, x -> x.right(0, 0, 0, day, 100000));
            illegal("to " + day, x -> x.right(0, 0, 0, 0, day));
            illegal("both " + day, x -> x.right(0, 0, 0, day, day));
        }
        due.is("the first day", World.four().right(0, 0, 0, 0, 0), 1);
        due.is("the last day", World.four().right(0, 0, 0, 100000, 100000), 1);
    }

    private static void fromBehindTo() {
        illegal("from 1 to 0", x -> x.right(0, 0, 0, 1, 0));
        illegal("from 6 to 5", x -> x.right(0, 0, 0, 6, 5));
        illegal("from the last to the first day", x -> x.right(0, 0, 0, 100000, 0));
        illegal("from the last to the day before", x -> x.right(0, 0, 0, 100000, 99999));
        due.is("from 6 to 6", World.four().right(0, 0, 0, 6, 6), 1);
        due.is("from 6 to 7", World.four().right(0, 0, 0, 6, 7), 1);
    }

    private static void thereAre60() {
        TraderRights x = World.four();
        for (int i = 1; i <= 60; i++) {
            due.is("right number " + i, x.right(i % 4, i % 8, TraderRights.NONE, i % 5, 9), i);
        }
        due.throwing("the 61st", IllegalStateException.class, World::full, y -> y.right(0, 0, 0, 0, 0));
        due.throwing("the 61st, of the last trader", IllegalStateException.class, World::full,
                y -> y.right(11, 7, TraderRights.NONE, 0, 100000));
    }
}
