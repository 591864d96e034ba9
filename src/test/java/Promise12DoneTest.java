public final class Promise12DoneTest {
    private static final Due due = new Due();

    public static void main(String[] args) {
        byOne();
        byTwo();
        deputies();
        wrong();
        due.end();
    }

    /** 0 and 1 have act 5, 2 and 3 have not. */
    private static TraderRights world(boolean needs) {
        TraderRights x = World.four();
        x.right(0, 5, TraderRights.NONE, 0, 9);
        x.right(1, 5, TraderRights.NONE, 0, 9);
        x.two(5, needs);
        return x;
    }

    private static void byOne() {
        TraderRights x = world(false);
        due.is("by the first", x.done(5, 0, 0, 0, 1), 0);
        due.is("the second may not", x.done(5, 0, 0, 0, 2), 0);
        due.is("the second is none", x.done(5, 0, 0, 0, TraderRights.NONE), 0);
        due.is("both the same", x.done(5, 0, 0, 0, 0), 0);
        due.is("the first may not", x.done(5, 0, 0, 2, 1), 1);
        due.is("another day", x.done(5, 0, 10, 0, 1), 1);
        x.two(4, true);
        due.is("another act needs two", x.done(5, 0, 0, 0, 2), 0);
    }

    private static void byTwo() {
        TraderRights x = world(true);
        due.is("by both", x.done(5, 7, 9, 0, 1), 0);
        due.is("by both, the other way", x.done(5, 7, 9, 1, 0), 0);
        due.is("the first may not", x.done(5, 0, 0, 2, 1), 1);
        due.is("the second may not", x.done(5, 0, 0, 1, 2), 2);
        due.is("neither may", x.done(5, 0, 0, 2, 3), 1);
        due.is("the same", x.done(5, 0, 0, 1, 1), 3);
        due.is("the same, that may not", x.done(5, 0, 0, 2, 2), 1);
        due.is("no such second", x.done(5, 0, 0, 0, 4), 2);
        x.suspend(1, 5, true);
        due.is("the second suspended", x.done(5, 0, 5, 0, 1), 2);
        due.is("the first suspended", x.done(5, 0, 5, 1, 0), 1);
        x.two(5, false);
        due.is("does not need two any more", x.done(5, 0, 5, 0, 1), 0);
    }

    private static void deputies() {
        TraderRights x = world(true);
        x.deputy(0, 2);
        due.is("with the deputy", x.done(5, 0, 0, 0, 2), 3);
        due.is("with the deputy, the other way", x.done(5, 0, 0, 2, 0), 3);
        due.is("the deputy with another one", x.done(5, 0, 0, 2, 1), 0);
        due.is("the one with another one", x.done(5, 0, 0, 1, 0), 0);
        x.mandate(0, 3, true, 9);
        due.is("with one with its mandate", x.done(5, 0, 0, 0, 3), 0);
        x.two(5, false);
        due.is("does not need two", x.done(5, 0, 0, 0, 2), 0);
    }

    private static void wrong() {
        for (int t : World.WRONG_TRADERS) {
            due.is("first " + t, world(true).done(5, 0, 0, t, 0), 1);
            due.is("second " + t, world(true).done(5, 0, 0, 0, t), 2);
        }
        for (int act : World.WRONG_ACTS) {
            due.is("act " + act, world(true).done(act, 0, 0, 0, 1), 1);
            due.is("place " + act, world(true).done(5, act, 0, 0, 1), 1);
        }
        for (int day : World.WRONG_DAYS) {
            due.is("day " + day, world(true).done(5, 0, day, 0, 1), 1);
        }
    }
}
