public final class Promise10MayTest {
    private static final Due due = new Due();

    public static void main(String[] args) {
        due.sentence("THE ANSWER.", Promise10MayTest::eachAnswer);
        due.sentence("THE ANSWER.", Promise10MayTest::firstAndLast);
        due.sentence("THE ANSWER.", Promise10MayTest::noSuch);
        due.sentence("THE ANSWER.", Promise10MayTest::onlyAsks);
        due.end();
    }

    /** One object on which each trader has another answer for act 1 at place 2 on day 5. */
    private static TraderRights world() {
        TraderRights x = World.withTraders(10);
        x.right(0, 1, 2, 5, 5);
        x.right(8, 1, 2, 5, 5);
        x.end(2, 5);
        x.suspend(3, 5, true);
        x.forbid(4, 1, true);
        x.mandate(0, 5, false, 5);
        x.deputy(8, 6);
        x.end(8, 5);
        return x;
    }

    private static void eachAnswer() {
        int[] answers = {0, 7, 2, 3, 4, 5, 6, 7, 2, 7, 1};
        for (int t = 0; t < answers.length; t++) {
            due.is("may of " + t, world().may(t, 1, 2, 5), answers[t]);
        }
    }

    private static void firstAndLast() {
        TraderRights x = World.twelve();
        x.right(0, 0, 0, 0, 0);
        x.right(11, 7, 7, 100000, 100000);
        due.is("the first of all", x.may(0, 0, 0, 0), 0);
        due.is("the last of all", x.may(11, 7, 7, 100000), 0);
    }

    private static void noSuch() {
        TraderRights x = world();
        for (int t : new int[] {-1, 10, 12, 32, Integer.MIN_VALUE, Integer.MAX_VALUE}) {
            due.is("trader " + t, x.may(t, 1, 2, 5), 1);
        }
        for (int act : World.WRONG_ACTS) {
            due.is("act " + act, x.may(0, act, 2, 5), 1);
            due.is("act " + act + " of an ended one", x.may(2, act, 2, 5), 1);
        }
        for (int place : World.WRONG_PLACES) {
            due.is("place " + place, x.may(0, 1, place, 5), 1);
            due.is("place " + place + " of a suspended one", x.may(3, 1, place, 5), 1);
        }
        for (int day : World.WRONG_DAYS) {
            due.is("day " + day, x.may(0, 1, 2, day), 1);
            due.is("day " + day + " of a forbidden one", x.may(4, 1, 2, day), 1);
        }
    }

    private static void onlyAsks() {
        int[] answers = {0, 7, 2, 3, 4, 5, 6, 7, 2, 7, 1};
        for (int t = 0; t < answers.length; t++) {
            int who = t;
            due.asks("may of " + t, answers[t], Promise10MayTest::world, x -> x.may(who, 1, 2, 5));
        }
    }
}
