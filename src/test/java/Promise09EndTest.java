public final class Promise09EndTest {
    private static final Due due = new Due();

    public static void main(String[] args) {
        TraderRights x = World.four();
        x.right(0, 1, TraderRights.NONE, 0, 100000);
        due.yes("end(0, 10)", x.end(0, 10));
        due.is("the day before", x.look(0, 9, 0), 0);
        due.is("the day", x.look(0, 10, 0), 1);
        due.is("the last day", x.look(0, 100000, 0), 1);
        due.is("may the day before", x.may(0, 1, 0, 9), 0);
        due.is("may that day", x.may(0, 1, 0, 10), 2);
        due.is("another trader", x.look(1, 10, 0), 0);
        due.yes("end on day 0", x.end(1, 0));
        due.is("ended on day 0", x.look(1, 0, 0), 1);
        due.no("ended on day 0 once more", x.end(1, 0));
        due.yes("end on the last day", x.end(2, 100000));
        due.is("the day before the last", x.look(2, 99999, 0), 0);
        due.is("the last day of all", x.look(2, 100000, 0), 1);
        refused();
        due.end();
    }

    private static TraderRights ended() {
        TraderRights x = World.four();
        x.end(0, 6);
        return x;
    }

    private static void refused() {
        due.refused("ended, the same day", 0, Promise09EndTest::ended, x -> x.end(0, 6) ? 1 : 0);
        due.refused("ended, an earlier day", 0, Promise09EndTest::ended, x -> x.end(0, 5) ? 1 : 0);
        due.refused("ended, a later day", 0, Promise09EndTest::ended, x -> x.end(0, 7) ? 1 : 0);
        for (int t : World.WRONG_TRADERS) {
            due.refused("trader " + t, 0, World::four, x -> x.end(t, 0) ? 1 : 0);
        }
        for (int day : World.WRONG_DAYS) {
            due.refused("day " + day, 0, World::four, x -> x.end(0, day) ? 1 : 0);
            due.is("can be ended behind that", endedBehind(day), 1);
        }
    }

    private static int endedBehind(int wrongDay) {
        TraderRights x = World.four();
        x.end(0, wrongDay);
        return x.end(0, 3) ? 1 : 0;
    }
}
