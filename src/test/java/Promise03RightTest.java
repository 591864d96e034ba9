import java.util.function.ToLongFunction;

public final class Promise03RightTest {
    private static final Due due = new Due();

    public static void main(String[] args) {
        ordinary();
        daysAndPlaces();
        wrong();
        full();
        due.end();
    }

    private static void ordinary() {
        TraderRights x = World.four();
        due.is("first right", x.right(0, 0, 0, 0, 0), 1);
        due.is("last of everything", x.right(3, 7, 7, 100000, 100000), 2);
        due.is("the same row again", x.right(3, 7, 7, 100000, 100000), 3);
        due.is("count(1)", x.count(1), 3);
        due.is("may by the first", x.may(0, 0, 0, 0), 0);
        due.is("may by the second", x.may(3, 7, 7, 100000), 0);
        due.is("another trader", x.may(1, 0, 0, 0), 7);
        due.is("another act", x.may(0, 1, 0, 0), 7);
        due.is("another place", x.may(0, 0, 1, 0), 7);
        due.is("another day", x.may(0, 0, 0, 1), 7);
    }

    private static void daysAndPlaces() {
        TraderRights x = World.four();
        x.right(0, 1, TraderRights.NONE, 5, 9);
        for (int place = 0; place <= 7; place++) {
            due.is("anywhere, at place " + place, x.may(0, 1, place, 5), 0);
        }
        due.is("day before from", x.may(0, 1, 0, 4), 7);
        due.is("day of to", x.may(0, 1, 0, 9), 0);
        due.is("day behind to", x.may(0, 1, 0, 10), 7);
        x.right(1, 1, 4, 5, 9);
        due.is("at the place", x.may(1, 1, 4, 7), 0);
        due.is("at the place before", x.may(1, 1, 3, 7), 7);
        due.is("at the place behind", x.may(1, 1, 5, 7), 7);
    }

    private static void wrong() {
        for (int t : World.WRONG_TRADERS) {
            illegal("trader " + t, x -> x.right(t, 0, 0, 0, 0));
        }
        for (int act : World.WRONG_ACTS) {
            illegal("act " + act, x -> x.right(0, act, 0, 0, 0));
        }
        for (int place : new int[] {-2, 8, Integer.MIN_VALUE, Integer.MAX_VALUE}) {
            illegal("place " + place, x -> x.right(0, 0, place, 0, 0));
        }
        for (int day : World.WRONG_DAYS) {
            illegal("from " + day, x -> x.right(0, 0, 0, day, 100000));
            illegal("to " + day, x -> x.right(0, 0, 0, 0, day));
        }
        illegal("from behind to", x -> x.right(0, 0, 0, 6, 5));
    }

    private static void illegal(String what, ToLongFunction<TraderRights> asking) {
        due.throwing("right with " + what, IllegalArgumentException.class, World::four, asking);
    }

    private static TraderRights with60() {
        TraderRights x = World.four();
        for (int i = 1; i <= 60; i++) {
            due.is("right number " + i, x.right(i % 4, i % 8, TraderRights.NONE, i % 5, 9), i);
        }
        return x;
    }

    private static void full() {
        due.throwing("the 61st right", IllegalStateException.class, Promise03RightTest::with60,
                x -> x.right(0, 0, 0, 0, 0));
        due.throwing("the 61st right, a wrong one", IllegalArgumentException.class, Promise03RightTest::with60,
                x -> x.right(0, 8, 0, 0, 0));
        due.throwing("the 61st right, from behind to", IllegalArgumentException.class, Promise03RightTest::with60,
                x -> x.right(0, 0, 0, 1, 0));
    }
}
