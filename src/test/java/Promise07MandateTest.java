public final class Promise07MandateTest {
    private static final Due due = new Due();

    public static void main(String[] args) {
        direct();
        indirect();
        wrong();
        full();
        due.end();
    }

    private static void direct() {
        TraderRights x = World.four();
        x.right(0, 1, TraderRights.NONE, 0, 100);
        due.is("first mandate", x.mandate(0, 1, true, 10), 1);
        due.is("count(2)", x.count(2), 1);
        due.is("on the last day of it", x.may(1, 1, 0, 10), 0);
        due.is("behind it", x.may(1, 1, 0, 11), 7);
        due.is("another act", x.may(1, 2, 0, 10), 7);
        due.is("not back to who gave it", x.mandate(1, 2, true, 100), 2);
        due.is("nothing goes on", x.may(2, 1, 0, 10), 7);
        due.is("the same again counts", x.mandate(0, 1, true, 10), 3);
        due.is("a later one", x.mandate(0, 1, true, 100000), 4);
        due.is("by the later one", x.may(1, 1, 0, 11), 0);
        due.is("until day 0", x.mandate(0, 3, true, 0), 5);
        due.is("on day 0", x.may(3, 1, 0, 0), 0);
        due.is("on day 1", x.may(3, 1, 0, 1), 7);
    }

    private static void indirect() {
        TraderRights x = World.four();
        x.right(0, 1, TraderRights.NONE, 0, 100);
        x.mandate(0, 1, false, 50);
        due.is("without act 0", x.may(1, 1, 4, 5), 5);
        x.right(0, 0, TraderRights.NONE, 0, 100);
        due.is("with act 0 of who gave it alone", x.may(1, 1, 4, 5), 5);
        x.right(1, 0, 4, 5, 9);
        due.is("with act 0 there", x.may(1, 1, 4, 5), 0);
        due.is("with act 0 elsewhere", x.may(1, 1, 3, 5), 5);
        due.is("with act 0 on another day", x.may(1, 1, 4, 10), 5);
        x.forbid(1, 0, true);
        due.is("with act 0 forbidden", x.may(1, 1, 4, 5), 5);
        due.is("behind it", x.may(1, 1, 4, 51), 7);
    }

    private static void wrong() {
        for (int t : World.WRONG_TRADERS) {
            due.throwing("from " + t, IllegalArgumentException.class, World::four, x -> x.mandate(t, 0, true, 0));
            due.throwing("to " + t, IllegalArgumentException.class, World::four, x -> x.mandate(0, t, true, 0));
        }
        for (int day : World.WRONG_DAYS) {
            due.throwing("until " + day, IllegalArgumentException.class, World::four, x -> x.mandate(0, 1, true, day));
        }
        due.throwing("the same", IllegalArgumentException.class, World::four, x -> x.mandate(2, 2, true, 0));
    }

    private static TraderRights with60() {
        TraderRights x = World.four();
        for (int i = 1; i <= 60; i++) {
            due.is("mandate number " + i, x.mandate(i % 4, (i + 1) % 4, i % 2 == 0, i), i);
        }
        return x;
    }

    private static void full() {
        due.throwing("the 61st", IllegalStateException.class, Promise07MandateTest::with60,
                x -> x.mandate(0, 1, true, 0));
        due.throwing("the 61st, the same", IllegalArgumentException.class, Promise07MandateTest::with60,
                x -> x.mandate(1, 1, true, 0));
        due.throwing("the 61st, a wrong day", IllegalArgumentException.class, Promise07MandateTest::with60,
                x -> x.mandate(0, 1, true, 100001));
    }
}
