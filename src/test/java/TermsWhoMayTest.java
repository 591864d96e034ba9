/** Terms: who may do an act at a place on a day. */
public final class TermsWhoMayTest {
    private static final Due due = new Due();

    public static void main(String[] args) {
        due.sentence("who is alive then", TermsWhoMayTest::whoIsAlive);
        due.sentence("and HAS it OF ITS OWN", TermsWhoMayTest::ofItsOwn);
        due.sentence("or is the deputy of one who is alive then and has it of its own", TermsWhoMayTest::deputy);
        due.sentence("or has a mandate until that day or later of one who is alive then and has it of its own",
                TermsWhoMayTest::mandate);
        due.sentence("if it is not direct, only if who has the mandate has the right for act 0", TermsWhoMayTest::act0);
        due.sentence("there on that day of its own, too", TermsWhoMayTest::act0ThereThen);
        due.sentence("there on that day of its own, too", TermsWhoMayTest::act0OfItsOwn);
        due.sentence("(Nothing goes on from deputies or mandates to others.)", TermsWhoMayTest::nothingGoesOn);
        due.end();
    }

    private static void whoIsAlive() {
        TraderRights x = World.withTraders(5);
        x.right(0, 1, World.ANYWHERE, 0, 100);
        x.right(1, 1, World.ANYWHERE, 0, 100);
        x.deputy(0, 2);
        x.mandate(0, 3, true, 100);
        x.group(4, 0);
        for (int t = 1; t <= 4; t++) {
            x.suspend(t, 10, true);
            x.suspend(t, 20, false);
            x.end(t, 30);
            due.is("alive, " + t, x.may(t, 1, 0, 9), 0);
            due.is("suspended, " + t, x.may(t, 1, 0, 10), 3);
            due.is("alive again, " + t, x.may(t, 1, 0, 20), 0);
            due.is("ended, " + t, x.may(t, 1, 0, 30), 2);
        }
    }

    private static void ofItsOwn() {
        TraderRights x = World.four();
        due.is("without", x.may(0, 1, 2, 5), 7);
        x.right(0, 1, 2, 5, 5);
        due.is("with a row", x.may(0, 1, 2, 5), 0);
        x.group(1, 0);
        due.is("with a group's row", x.may(1, 1, 2, 5), 0);
        x.forbid(1, 1, true);
        due.is("forbidden", x.may(1, 1, 2, 5), 4);
    }

    /** Of 0, who is in the group 1, the deputy is 2. */
    private static void deputy() {
        TraderRights x = World.four();
        x.right(0, 1, 2, 5, 9);
        x.right(1, 3, 2, 5, 9);
        x.group(0, 1);
        x.deputy(0, 2);
        due.is("what it has by a row", x.may(2, 1, 2, 5), 0);
        due.is("what it has by a group", x.may(2, 3, 2, 5), 0);
        due.is("what it does not have then", x.may(2, 1, 2, 4), 7);
        due.is("what it does not have there", x.may(2, 1, 3, 5), 7);
        due.is("no other is its deputy", x.may(3, 1, 2, 5), 7);
        x.right(2, 4, 2, 5, 9);
        due.is("not the other way round", x.may(0, 4, 2, 5), 7);
        x.suspend(1, 7, true);
        due.is("by a group that is not alive", x.may(2, 3, 2, 7), 7);
        x.suspend(0, 8, true);
        due.is("of one that is not alive", x.may(2, 1, 2, 8), 6);
        due.is("of one that is alive", x.may(2, 1, 2, 7), 0);
    }

    /** 2 has mandates of 0, who is in the group 1. */
    private static void mandate() {
        TraderRights x = World.four();
        x.right(0, 1, 2, 5, 19);
        x.right(1, 3, 2, 5, 19);
        x.group(0, 1);
        x.mandate(0, 2, true, 7);
        due.is("what it has by a row", x.may(2, 1, 2, 5), 0);
        due.is("what it has by a group", x.may(2, 3, 2, 5), 0);
        due.is("what it does not have then", x.may(2, 1, 2, 4), 7);
        due.is("what it does not have there", x.may(2, 1, 3, 5), 7);
        due.is("until that day", x.may(2, 1, 2, 7), 0);
        due.is("not until that day", x.may(2, 1, 2, 8), 7);
        x.mandate(0, 2, true, 15);
        due.is("until later", x.may(2, 1, 2, 14), 0);
        x.mandate(0, 2, true, 3);
        due.is("an earlier one takes nothing away", x.may(2, 1, 2, 14), 0);
        x.suspend(1, 9, true);
        due.is("by a group that is not alive", x.may(2, 3, 2, 9), 7);
        x.end(0, 10);
        due.is("of one that is alive", x.may(2, 1, 2, 9), 0);
        due.is("of one that is not alive", x.may(2, 1, 2, 10), 6);
        x.right(3, 1, 2, 0, 19);
        x.mandate(3, 2, true, 10);
        due.is("of another one that is alive", x.may(2, 1, 2, 10), 0);
    }

    private static void act0() {
        TraderRights x = World.withTraders(5);
        x.right(0, 1, 2, 5, 9);
        x.mandate(0, 1, false, 9);
        x.mandate(0, 2, true, 9);
        x.deputy(0, 3);
        due.is("not direct, without act 0", x.may(1, 1, 2, 5), 5);
        due.is("direct, without act 0", x.may(2, 1, 2, 5), 0);
        due.is("a deputy, without act 0", x.may(3, 1, 2, 5), 0);
        x.right(0, 0, 2, 5, 9);
        due.is("act 0 of who gave it", x.may(1, 1, 2, 5), 5);
        for (int act = 2; act <= 7; act++) {
            x.right(1, act, 2, 5, 9);
        }
        due.is("all acts but 0 and it", x.may(1, 1, 2, 5), 5);
        x.right(1, 0, 2, 5, 9);
        due.is("with act 0", x.may(1, 1, 2, 5), 0);
        due.is("with act 0, without a mandate for the rest", x.may(4, 1, 2, 5), 7);
    }

    private static void act0ThereThen() {
        TraderRights x = World.four();
        x.right(0, 1, World.ANYWHERE, 0, 100);
        x.mandate(0, 1, false, 100);
        x.right(1, 0, 2, 5, 9);
        due.is("there, the first day", x.may(1, 1, 2, 5), 0);
        due.is("there, the last day", x.may(1, 1, 2, 9), 0);
        due.is("there, the day before", x.may(1, 1, 2, 4), 5);
        due.is("there, the day behind", x.may(1, 1, 2, 10), 5);
        due.is("the place before", x.may(1, 1, 1, 5), 5);
        due.is("the place behind", x.may(1, 1, 3, 5), 5);
        x.right(1, 0, World.ANYWHERE, 20, 20);
        due.is("anywhere", x.may(1, 1, 7, 20), 0);
    }

    /** 1 has a mandate that is not direct of 0; act 0 comes to it in several ways. */
    private static void act0OfItsOwn() {
        TraderRights x = World.withTraders(5);
        x.right(0, 1, World.ANYWHERE, 0, 100);
        x.mandate(0, 1, false, 100);
        x.right(2, 0, World.ANYWHERE, 0, 100);
        x.deputy(2, 1);
        due.is("act 0 as a deputy", x.may(1, 0, 2, 5), 0);
        due.is("act 0 as a deputy is not its own", x.may(1, 1, 2, 5), 5);
        x.mandate(2, 1, true, 100);
        due.is("act 0 by a mandate is not its own", x.may(1, 1, 2, 5), 5);
        x.group(1, 2);
        due.is("act 0 by a group is its own", x.may(1, 1, 2, 5), 0);
        x.suspend(2, 10, true);
        due.is("but not if the group is not alive", x.may(1, 1, 2, 10), 5);
        x.forbid(1, 0, true);
        due.is("nor if it is forbidden", x.may(1, 1, 2, 5), 5);
        x.forbid(1, 0, false);
        x.forbid(2, 0, true);
        due.is("forbidden to the group does not matter", x.may(1, 1, 2, 5), 0);
        x.forbid(0, 0, true);
        due.is("nor forbidden to who gave the mandate", x.may(1, 1, 2, 5), 0);
    }

    /** 0 has it, 1 is its deputy, 2 has its mandate; the others have something of 1 or 2. */
    private static void nothingGoesOn() {
        TraderRights x = World.withTraders(8);
        x.right(0, 1, World.ANYWHERE, 0, 100);
        for (int t = 1; t <= 7; t++) {
            x.right(t, 0, World.ANYWHERE, 0, 100);
        }
        x.deputy(0, 1);
        x.mandate(0, 2, true, 50);
        x.mandate(1, 3, true, 50);
        x.mandate(1, 3, false, 50);
        x.mandate(2, 4, true, 50);
        x.mandate(2, 4, false, 50);
        x.deputy(2, 5);
        x.group(6, 1);
        x.group(7, 2);
        due.is("the deputy", x.may(1, 1, 0, 5), 0);
        due.is("who has the mandate", x.may(2, 1, 0, 5), 0);
        due.is("mandates of the deputy", x.may(3, 1, 0, 5), 7);
        due.is("mandates of who has a mandate", x.may(4, 1, 0, 5), 7);
        due.is("deputy of who has a mandate", x.may(5, 1, 0, 5), 7);
        due.is("in the deputy as a group", x.may(6, 1, 0, 5), 7);
        due.is("in who has a mandate as a group", x.may(7, 1, 0, 5), 7);
        x.suspend(1, 10, true);
        x.suspend(2, 10, true);
        for (int t = 3; t <= 7; t++) {
            due.is("nor as if they were alive, " + t, x.may(t, 1, 0, 10), 7);
        }
    }
}
