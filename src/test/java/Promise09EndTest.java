public final class Promise09EndTest {
    private static final Due due = new Due();

    public static void main(String[] args) {
        due.sentence("A trader is ENDED from a day on: true", Promise09EndTest::told);
        due.sentence("false if there is no such one or day", Promise09EndTest::noSuchOne);
        due.sentence("false if there is no such one or day", Promise09EndTest::noSuchDay);
        due.sentence("or it is ended", Promise09EndTest::itIsEnded);
        due.end();
    }

    private static void told() {
        TraderRights x = World.twelve();
        for (int t = 0; t < 12; t++) {
            int day = t == 11 ? 100000 : 10 * t;
            due.yes("end of " + t, x.end(t, day));
            due.is("that day", x.look(t, day, 0), 1);
            due.is("may that day", x.may(t, 0, 0, day), 2);
            if (day > 0) {
                due.is("the day before", x.look(t, day - 1, 0), 0);
                due.is("may the day before", x.may(t, 0, 0, day - 1), 7);
            }
        }
        TraderRights suspended = World.four();
        suspended.suspend(0, 0, true);
        due.yes("end of a suspended one", suspended.end(0, 5));
    }

    private static void noSuchOne() {
        for (int t : World.WRONG_TRADERS) {
            due.refused("end of " + t, World::four, x -> x.end(t, 0));
        }
    }

    private static void noSuchDay() {
        for (int day : World.WRONG_DAYS) {
            due.refused("end on " + day, World::four, x -> x.end(0, day));
            TraderRights x = World.four();
            x.end(0, day);
            due.yes("it can be ended behind that", x.end(0, 3));
        }
    }

    private static TraderRights ended() {
        TraderRights x = World.four();
        x.end(0, 0);
        x.end(1, 6);
        x.end(2, 100000);
        return x;
    }

    private static void itIsEnded() {
        for (int t = 0; t <= 2; t++) {
            for (int day : new int[] {0, 5, 6, 7, 100000}) {
                int who = t;
                due.refused("end of " + t + " again, on " + day, Promise09EndTest::ended, x -> x.end(who, day));
            }
        }
        due.yes("end of one that is not", ended().end(3, 6));
    }
}
