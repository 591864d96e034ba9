/** Terms: the answer, each reason alone, and the least of several. */
public final class TermsAnswerTest {
    private static final Due due = new Due();

    public static void main(String[] args) {
        due.sentence("THE ANSWER to that is 0 if it may", TermsAnswerTest::itMay);
        due.sentence("else the least REASON", TermsAnswerTest::least);
        due.sentence("1 there are no such trader, act, place, or day", TermsAnswerTest::noSuch);
        due.sentence("2 it is ended", TermsAnswerTest::ended);
        due.sentence("3 it is suspended", TermsAnswerTest::suspended);
        due.sentence("4 it is forbidden the act, and may not otherwise", TermsAnswerTest::forbidden);
        due.sentence("5 somebody gave it a mandate that is not direct, which would do with act 0",
                TermsAnswerTest::wouldDoWithAct0);
        due.sentence("6 one whose deputy it is, or whose mandate until that day or later it has, would have it but is"
                + " not alive", TermsAnswerTest::notAlive);
        due.sentence("7 none of these", TermsAnswerTest::noneOfThese);
        due.sentence("(4 to 6: the least of those that are so", TermsAnswerTest::fourToSix);
        due.sentence("6 asks what that one has of its own as if it were alive.)", TermsAnswerTest::asIfAlive);
        due.end();
    }

    /** Whoever may by one way may, though reasons would hold for all other ways. */
    private static void itMay() {
        TraderRights x = World.withTraders(5);
        x.right(0, 1, World.ANYWHERE, 0, 100);
        x.right(1, 1, World.ANYWHERE, 0, 100);
        x.right(2, 1, World.ANYWHERE, 0, 100);
        x.forbid(4, 1, true);
        x.end(0, 0);
        x.mandate(0, 4, true, 50);
        x.mandate(1, 4, false, 50);
        due.is("forbidden, not direct, of an ended one", x.may(4, 1, 0, 5), 4);
        x.deputy(2, 4);
        due.is("but a deputy, too", x.may(4, 1, 0, 5), 0);
        x.suspend(2, 6, true);
        due.is("whose one is suspended", x.may(4, 1, 0, 6), 4);
        x.right(4, 0, 3, 0, 100);
        due.is("but with act 0 for the one not direct", x.may(4, 1, 3, 6), 0);
        due.is("elsewhere", x.may(4, 1, 4, 6), 4);
    }

    private static void least() {
        TraderRights x = World.withTraders(3);
        x.right(0, 1, World.ANYWHERE, 0, 100);
        x.deputy(0, 2);
        x.end(0, 1);
        due.is("6", x.may(2, 1, 0, 10), 6);
        x.right(1, 1, World.ANYWHERE, 0, 100);
        x.mandate(1, 2, false, 50);
        due.is("5 and 6", x.may(2, 1, 0, 10), 5);
        x.forbid(2, 1, true);
        due.is("4 to 6", x.may(2, 1, 0, 10), 4);
        x.suspend(2, 10, true);
        due.is("3 to 6", x.may(2, 1, 0, 10), 3);
        x.end(2, 10);
        due.is("2 to 6", x.may(2, 1, 0, 10), 2);
        due.is("all but an act", x.may(2, 8, 0, 10), 1);
        due.is("all but a place", x.may(2, 1, 8, 10), 1);
    }

    private static void noSuch() {
        TraderRights x = World.four();
        x.right(0, 1, World.ANYWHERE, 0, 100000);
        for (int t : World.WRONG_TRADERS) {
            due.is("trader " + t, x.may(t, 1, 0, 5), 1);
        }
        for (int act : World.WRONG_ACTS) {
            due.is("act " + act, x.may(0, act, 0, 5), 1);
        }
        for (int place : World.WRONG_PLACES) {
            due.is("place " + place, x.may(0, 1, place, 5), 1);
        }
        for (int day : World.WRONG_DAYS) {
            due.is("day " + day, x.may(0, 1, 0, day), 1);
        }
        due.is("none of all", x.may(-1, -1, -1, -1), 1);
        due.is("of a new object", new TraderRights().may(0, 0, 0, 0), 1);
    }

    private static void ended() {
        TraderRights x = World.four();
        x.right(0, 1, World.ANYWHERE, 0, 100);
        x.end(0, 10);
        x.end(1, 10);
        due.is("the day before", x.may(0, 1, 0, 9), 0);
        due.is("the day", x.may(0, 1, 0, 10), 2);
        due.is("without a right, the day before", x.may(1, 1, 0, 9), 7);
        due.is("without a right, the day", x.may(1, 1, 0, 10), 2);
        x.suspend(0, 5, true);
        due.is("suspended and not yet ended", x.may(0, 1, 0, 9), 3);
        due.is("suspended and ended", x.may(0, 1, 0, 10), 2);
    }

    private static void suspended() {
        TraderRights x = World.four();
        x.right(0, 1, World.ANYWHERE, 0, 100);
        x.suspend(0, 10, true);
        x.suspend(1, 10, true);
        x.forbid(0, 1, true);
        due.is("forbidden and not yet suspended", x.may(0, 1, 0, 9), 4);
        due.is("forbidden and suspended", x.may(0, 1, 0, 10), 3);
        due.is("without a right, suspended", x.may(1, 1, 0, 10), 3);
    }

    private static void forbidden() {
        TraderRights x = World.four();
        x.right(0, 1, World.ANYWHERE, 0, 100);
        x.forbid(0, 1, true);
        due.is("forbidden what it has a row for", x.may(0, 1, 0, 5), 4);
        x.forbid(1, 1, true);
        due.is("forbidden without a row", x.may(1, 1, 0, 5), 4);
        x.right(2, 1, World.ANYWHERE, 0, 100);
        x.mandate(2, 0, true, 5);
        x.deputy(2, 1);
        due.is("forbidden, may by a mandate", x.may(0, 1, 0, 5), 0);
        due.is("forbidden, may not behind the mandate", x.may(0, 1, 0, 6), 4);
        due.is("forbidden, may as a deputy", x.may(1, 1, 0, 5), 0);
        due.is("another act", x.may(1, 2, 0, 5), 7);
    }

    private static void wouldDoWithAct0() {
        TraderRights x = World.withTraders(6);
        x.right(0, 1, 2, 5, 9);
        x.mandate(0, 1, false, 7);
        due.is("would do", x.may(1, 1, 2, 5), 5);
        due.is("would do, the last day", x.may(1, 1, 2, 7), 5);
        due.is("behind its last day", x.may(1, 1, 2, 8), 7);
        due.is("who gave it does not have it then", x.may(1, 1, 2, 4), 7);
        due.is("who gave it does not have it there", x.may(1, 1, 3, 5), 7);
        due.is("who gave it does not have the act", x.may(1, 2, 2, 5), 7);
        x.forbid(0, 1, true);
        due.is("who gave it is forbidden it", x.may(1, 1, 2, 5), 7);
        x.mandate(3, 1, false, 9);
        due.is("nor does another one", x.may(1, 1, 2, 5), 7);
        x.right(4, 1, World.ANYWHERE, 0, 100);
        x.group(3, 4);
        due.is("another one has it by a group", x.may(1, 1, 2, 5), 5);
        due.is("act 0 itself by one that is not direct", actZeroNotDirect().may(1, 0, 2, 5), 5);
    }

    private static TraderRights actZeroNotDirect() {
        TraderRights x = World.four();
        x.right(0, 0, World.ANYWHERE, 0, 100);
        x.mandate(0, 1, false, 100);
        return x;
    }

    /** Of 0 the deputy is 1; 2 has a direct mandate of it, 3 one that is not direct. */
    private static TraderRights given() {
        TraderRights x = World.withTraders(6);
        x.right(0, 1, 2, 0, 100);
        x.deputy(0, 1);
        x.mandate(0, 2, true, 50);
        x.mandate(0, 3, false, 50);
        return x;
    }

    private static void notAlive() {
        TraderRights suspended = given();
        suspended.suspend(0, 10, true);
        TraderRights ended = given();
        ended.end(0, 10);
        for (TraderRights x : new TraderRights[] {suspended, ended}) {
            due.is("deputy, the day before", x.may(1, 1, 2, 9), 0);
            due.is("deputy", x.may(1, 1, 2, 10), 6);
            due.is("deputy, where it would not have it", x.may(1, 1, 3, 10), 7);
            due.is("deputy, when it would not have it", x.may(1, 1, 2, 101), 7);
            due.is("direct, the day before", x.may(2, 1, 2, 9), 0);
            due.is("direct", x.may(2, 1, 2, 10), 6);
            due.is("direct, the last day", x.may(2, 1, 2, 50), 6);
            due.is("direct, behind its last day", x.may(2, 1, 2, 51), 7);
            due.is("not direct, the day before", x.may(3, 1, 2, 9), 5);
            due.is("not direct, without act 0", x.may(3, 1, 2, 10), 6);
            due.is("not direct, the last day", x.may(3, 1, 2, 50), 6);
            due.is("not direct, behind its last day", x.may(3, 1, 2, 51), 7);
            x.right(3, 0, World.ANYWHERE, 0, 100);
            due.is("not direct, with act 0", x.may(3, 1, 2, 10), 6);
            due.is("another act", x.may(2, 3, 2, 10), 7);
            due.is("one that has nothing of it", x.may(4, 1, 2, 10), 7);
        }
    }

    private static void noneOfThese() {
        TraderRights x = World.four();
        due.is("nothing told", x.may(0, 1, 2, 5), 7);
        x.deputy(1, 0);
        x.mandate(2, 0, true, 9);
        x.mandate(3, 0, false, 9);
        due.is("of those that have nothing", x.may(0, 1, 2, 5), 7);
        x.right(0, 1, 3, 0, 9);
        x.right(0, 2, 2, 0, 9);
        x.right(0, 1, 2, 6, 9);
        due.is("rows for other places, acts and days", x.may(0, 1, 2, 5), 7);
        x.forbid(0, 3, true);
        due.is("another act is forbidden", x.may(0, 1, 2, 5), 7);
        x.end(1, 0);
        x.end(2, 0);
        x.end(3, 0);
        due.is("of those that had nothing and are ended", x.may(0, 1, 2, 5), 7);
    }

    private static void fourToSix() {
        TraderRights x = given();
        x.right(4, 1, 2, 0, 100);
        x.suspend(0, 10, true);
        x.mandate(4, 2, false, 20);
        x.mandate(4, 1, false, 20);
        due.is("5 and 6, a mandate", x.may(2, 1, 2, 20), 5);
        due.is("5 and 6, a deputy", x.may(1, 1, 2, 20), 5);
        due.is("6 alone, behind the one not direct", x.may(2, 1, 2, 21), 6);
        x.forbid(2, 1, true);
        due.is("4 to 6", x.may(2, 1, 2, 20), 4);
        due.is("4 and 6", x.may(2, 1, 2, 21), 4);
        x.forbid(3, 1, true);
        due.is("4 and 5", x.may(3, 1, 2, 9), 4);
        x.end(4, 15);
        due.is("6 of both", x.may(1, 1, 2, 15), 6);
    }

    /** 0 is not alive and is in the group 4, that has the right for act 3. */
    private static void asIfAlive() {
        TraderRights x = given();
        x.right(4, 3, 2, 0, 100);
        x.group(0, 4);
        x.end(0, 10);
        x.suspend(4, 20, true);
        for (int t = 1; t <= 3; t++) {
            due.is("by its group, " + t, x.may(t, 3, 2, 10), 6);
            due.is("its group is not alive, " + t, x.may(t, 3, 2, 20), 7);
            due.is("its own row all the same, " + t, x.may(t, 1, 2, 20), 6);
        }
        x.forbid(0, 1, true);
        for (int t = 1; t <= 3; t++) {
            due.is("forbidden to it, " + t, x.may(t, 1, 2, 10), 7);
        }
    }
}
