public final class Promise10MayTest {
    private static final Due due = new Due();

    public static void main(String[] args) {
        noSuch();
        endedBeforeSuspended();
        deputies();
        mandates();
        nothingGoesOn();
        forbiddenIsLeast();
        indirectBeforeNotAlive();
        notAlive();
        ownByGroups();
        actZeroItself();
        due.end();
    }

    private static void noSuch() {
        TraderRights x = World.four();
        x.right(0, 0, TraderRights.NONE, 0, 100000);
        due.is("may", x.may(0, 0, 0, 0), 0);
        for (int t : World.WRONG_TRADERS) {
            due.is("trader " + t, x.may(t, 0, 0, 0), 1);
        }
        for (int act : World.WRONG_ACTS) {
            due.is("act " + act, x.may(0, act, 0, 0), 1);
            due.is("place " + act, x.may(0, 0, act, 0), 1);
        }
        for (int day : World.WRONG_DAYS) {
            due.is("day " + day, x.may(0, 0, 0, day), 1);
        }
        x.end(0, 0);
        due.is("ended, no such act", x.may(0, 8, 0, 0), 1);
        due.is("ended", x.may(0, 0, 0, 0), 2);
    }

    private static void endedBeforeSuspended() {
        TraderRights x = World.four();
        x.right(0, 1, TraderRights.NONE, 0, 100);
        x.forbid(0, 1, true);
        x.suspend(0, 5, true);
        due.is("suspended and forbidden", x.may(0, 1, 0, 5), 3);
        x.end(0, 8);
        due.is("ended and suspended", x.may(0, 1, 0, 8), 2);
        due.is("suspended before the end", x.may(0, 1, 0, 7), 3);
        due.is("forbidden before all that", x.may(0, 1, 0, 4), 4);
    }

    private static void deputies() {
        TraderRights x = World.four();
        x.right(0, 1, TraderRights.NONE, 0, 100);
        x.deputy(0, 1);
        x.suspend(0, 10, true);
        x.suspend(1, 20, true);
        due.is("deputy", x.may(1, 1, 0, 9), 0);
        due.is("deputy of a suspended one", x.may(1, 1, 0, 10), 6);
        due.is("suspended deputy of a suspended one", x.may(1, 1, 0, 20), 3);
        due.is("deputy, for what it lacks too", x.may(1, 2, 0, 10), 7);
    }

    private static void mandates() {
        TraderRights x = World.four();
        x.right(0, 1, TraderRights.NONE, 0, 100);
        x.right(1, 1, TraderRights.NONE, 0, 100);
        x.mandate(0, 2, true, 50);
        x.mandate(1, 2, true, 50);
        x.end(0, 10);
        due.is("by another one that is alive", x.may(2, 1, 0, 10), 0);
        x.end(1, 20);
        due.is("by none that is alive", x.may(2, 1, 0, 20), 6);
        due.is("by none that is alive, the last day", x.may(2, 1, 0, 50), 6);
        due.is("behind both", x.may(2, 1, 0, 51), 7);
    }

    private static void nothingGoesOn() {
        TraderRights x = World.withTraders(6);
        x.right(0, 1, TraderRights.NONE, 0, 100);
        x.deputy(0, 1);
        x.mandate(0, 2, true, 50);
        x.mandate(1, 3, true, 50);
        x.mandate(2, 3, true, 50);
        x.deputy(2, 4);
        x.group(5, 2);
        x.group(5, 1);
        due.is("mandates of a deputy and of one with a mandate", x.may(3, 1, 0, 5), 7);
        due.is("deputy of one with a mandate", x.may(4, 1, 0, 5), 7);
        due.is("in one with a mandate as a group", x.may(5, 1, 0, 5), 7);
        x.group(4, 0);
        due.is("groups are another thing", x.may(4, 1, 0, 5), 0);
    }

    private static void forbiddenIsLeast() {
        TraderRights x = World.four();
        due.yes("forbid", x.forbid(2, 1, true));
        due.is("forbidden without any right", x.may(2, 1, 0, 5), 4);
        x.right(0, 1, TraderRights.NONE, 0, 100);
        x.mandate(0, 2, false, 50);
        due.is("forbidden, with one that is not direct", x.may(2, 1, 0, 5), 4);
        x.end(0, 20);
        due.is("forbidden, by one that is ended", x.may(2, 1, 0, 20), 4);
        x.right(2, 0, TraderRights.NONE, 0, 100);
        due.is("forbidden, but may otherwise", x.may(2, 1, 0, 5), 0);
        x.forbid(2, 1, false);
        due.is("not forbidden any more, by one that is ended", x.may(2, 1, 0, 20), 6);
    }

    private static void indirectBeforeNotAlive() {
        TraderRights x = World.four();
        x.right(0, 1, TraderRights.NONE, 0, 100);
        x.right(1, 1, TraderRights.NONE, 0, 100);
        x.mandate(0, 2, true, 50);
        x.mandate(1, 2, false, 60);
        x.suspend(0, 5, true);
        due.is("both 5 and 6", x.may(2, 1, 0, 5), 5);
        x.suspend(1, 10, true);
        due.is("who gave the one not direct is not alive", x.may(2, 1, 0, 10), 6);
        due.is("the one not direct alone, of one not alive", x.may(2, 1, 0, 55), 6);
        x.forbid(1, 1, true);
        due.is("of one not alive that is forbidden it", x.may(2, 1, 0, 55), 7);
    }

    private static void notAlive() {
        TraderRights x = World.four();
        x.right(3, 1, TraderRights.NONE, 0, 100);
        x.group(0, 3);
        x.deputy(0, 1);
        x.mandate(0, 2, true, 50);
        x.end(0, 10);
        due.is("deputy, what the ended one has by groups", x.may(1, 1, 0, 10), 6);
        due.is("mandate, what the ended one has by groups", x.may(2, 1, 0, 10), 6);
        x.suspend(3, 20, true);
        due.is("deputy, its group is not alive", x.may(1, 1, 0, 20), 7);
        due.is("mandate, its group is not alive", x.may(2, 1, 0, 20), 7);
    }

    private static void ownByGroups() {
        TraderRights x = World.withTraders(5);
        x.right(3, 1, 2, 0, 100);
        x.right(4, 0, 2, 0, 100);
        x.group(0, 3);
        x.mandate(0, 1, false, 50);
        due.is("what the giver has by groups, without act 0", x.may(1, 1, 2, 5), 5);
        x.group(1, 4);
        due.is("act 0 by groups", x.may(1, 1, 2, 5), 0);
        x.suspend(4, 5, true);
        due.is("act 0 by a group that is not alive", x.may(1, 1, 2, 5), 5);
        due.is("at another place", x.may(1, 1, 3, 4), 7);
    }

    private static void actZeroItself() {
        TraderRights x = World.four();
        x.right(0, 0, TraderRights.NONE, 0, 100);
        x.mandate(0, 1, false, 50);
        due.is("act 0 by a mandate that is not direct", x.may(1, 0, 0, 5), 5);
        x.mandate(0, 2, true, 50);
        x.mandate(3, 2, false, 50);
        x.right(3, 1, TraderRights.NONE, 0, 100);
        due.is("act 0 by a direct mandate", x.may(2, 0, 0, 5), 0);
        due.is("that is not act 0 of its own", x.may(2, 1, 0, 5), 5);
    }
}
