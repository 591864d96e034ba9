public final class Promise12DoneTest {
    private static final Due due = new Due();

    public static void main(String[] args) {
        due.sentence("Whether two do an act at a place on a day as it must be: 0", Promise12DoneTest::asItMustBe);
        due.sentence("1 if the first one may not alone", Promise12DoneTest::firstMayNot);
        due.sentence("2 if the second one may not (of an act that needs two)", Promise12DoneTest::secondMayNot);
        due.sentence("3 if they are the same", Promise12DoneTest::theSame);
        due.sentence("or one is a deputy of the other (of such)", Promise12DoneTest::oneIsDeputy);
        due.sentence("The least.", Promise12DoneTest::least);
        due.sentence("Whether two do an act at a place on a day", Promise12DoneTest::onlyAsks);
        due.end();
    }

    /** 0 and 1 have act 5 at all places on the days 0 to 9, 2 and 3 have not. */
    private static TraderRights world(boolean needs) {
        TraderRights x = World.four();
        x.right(0, 5, World.ANYWHERE, 0, 9);
        x.right(1, 5, World.ANYWHERE, 0, 9);
        x.two(5, needs);
        return x;
    }

    private static void asItMustBe() {
        TraderRights one = world(false);
        due.is("by the first", one.done(5, 0, 0, 0, 1), 0);
        due.is("by the first, the last place and day", one.done(5, 7, 9, 1, 2), 0);
        TraderRights two = world(true);
        due.is("by both", two.done(5, 0, 0, 0, 1), 0);
        due.is("by both, the other way, the last place and day", two.done(5, 7, 9, 1, 0), 0);
        TraderRights last = World.twelve();
        last.right(0, 7, 7, 100000, 100000);
        last.right(11, 7, 7, 100000, 100000);
        last.two(7, true);
        due.is("the first and the last trader", last.done(7, 7, 100000, 0, 11), 0);
        due.is("the last and the first trader", last.done(7, 7, 100000, 11, 0), 0);
    }

    private static void firstMayNot() {
        for (boolean needs : new boolean[] {false, true}) {
            TraderRights x = world(needs);
            due.is("no right", x.done(5, 0, 0, 2, 1), 1);
            due.is("the day behind", x.done(5, 0, 10, 0, 1), 1);
            due.is("another act", x.done(4, 0, 0, 0, 1), 1);
            x.suspend(0, 5, true);
            due.is("suspended", x.done(5, 0, 5, 0, 1), 1);
            for (int t : World.WRONG_TRADERS) {
                due.is("first " + t, world(needs).done(5, 0, 0, t, 0), 1);
            }
            for (int act : World.WRONG_ACTS) {
                due.is("act " + act, world(needs).done(act, 0, 0, 0, 1), 1);
            }
            for (int place : World.WRONG_PLACES) {
                due.is("place " + place, world(needs).done(5, place, 0, 0, 1), 1);
            }
            for (int day : World.WRONG_DAYS) {
                due.is("day " + day, world(needs).done(5, 0, day, 0, 1), 1);
            }
        }
    }

    private static void secondMayNot() {
        TraderRights two = world(true);
        due.is("no right", two.done(5, 0, 0, 1, 2), 2);
        due.is("no right, the other", two.done(5, 0, 0, 0, 3), 2);
        two.suspend(1, 5, true);
        due.is("suspended", two.done(5, 0, 5, 0, 1), 2);
        TraderRights one = world(false);
        due.is("no right, does not need two", one.done(5, 0, 0, 1, 2), 0);
        one.two(4, true);
        due.is("no right, another act needs two", one.done(5, 0, 0, 1, 2), 0);
        for (int t : World.WRONG_TRADERS) {
            due.is("second " + t, world(true).done(5, 0, 0, 0, t), 2);
            due.is("second " + t + ", does not need two", world(false).done(5, 0, 0, 0, t), 0);
        }
    }

    private static void theSame() {
        due.is("0", world(true).done(5, 0, 0, 0, 0), 3);
        due.is("1", world(true).done(5, 0, 0, 1, 1), 3);
        due.is("0, does not need two", world(false).done(5, 0, 0, 0, 0), 0);
    }

    private static void oneIsDeputy() {
        for (boolean needs : new boolean[] {false, true}) {
            TraderRights x = world(needs);
            x.deputy(0, 2);
            due.is("the second is", x.done(5, 0, 0, 0, 2), needs ? 3 : 0);
            due.is("the first is", x.done(5, 0, 0, 2, 0), needs ? 3 : 0);
            due.is("of another one", x.done(5, 0, 0, 2, 1), 0);
            x.mandate(0, 3, true, 9);
            due.is("a mandate is another thing", x.done(5, 0, 0, 0, 3), 0);
            due.is("two that have it of the same one", x.done(5, 0, 0, 2, 3), 0);
        }
    }

    private static void least() {
        TraderRights x = world(true);
        due.is("1 and 2", x.done(5, 0, 0, 2, 3), 1);
        due.is("1 to 3, the same", x.done(5, 0, 0, 2, 2), 1);
        due.is("1 to 3, no such one", x.done(5, 0, 0, 4, 4), 1);
        x.deputy(2, 3);
        due.is("1 to 3, a deputy", x.done(5, 0, 0, 2, 3), 1);
        x.deputy(0, 1);
        x.suspend(1, 5, true);
        due.is("2 and 3", x.done(5, 0, 5, 0, 1), 2);
        due.is("1 and 3", x.done(5, 0, 5, 1, 0), 1);
        due.is("3", x.done(5, 0, 4, 0, 1), 3);
    }

    private static void onlyAsks() {
        due.asks("0", 0, () -> world(true), x -> x.done(5, 0, 0, 0, 1));
        due.asks("1", 1, () -> world(true), x -> x.done(5, 0, 0, 2, 1));
        due.asks("2", 2, () -> world(true), x -> x.done(5, 0, 0, 0, 2));
        due.asks("3", 3, () -> world(true), x -> x.done(5, 0, 0, 0, 0));
    }
}
