import java.util.function.Supplier;

/** Terms: groups in groups. */
public final class TermsGroupsTest {
    private static final Due due = new Due();

    public static void main(String[] args) {
        due.sentence("a trader is in another one (as a group)", TermsGroupsTest::inAnotherOne);
        due.sentence("no rings", TermsGroupsTest::noRings);
        due.sentence("no rings", TermsGroupsTest::noRingsThroughThoseNotAlive);
        due.sentence("no rings", TermsGroupsTest::twoWaysAreNoRing);
        due.sentence("each in at most 4", TermsGroupsTest::aFifth);
        due.sentence("each in at most 4", TermsGroupsTest::membersWithoutBound);
        due.sentence("those that it is in, those that these are in, and so on", TermsGroupsTest::andSoOn);
        due.sentence("those that it is in, those that these are in, and so on", TermsGroupsTest::eachOnce);
        due.sentence("as far as all on the way (but itself) are alive on the day", TermsGroupsTest::allOnTheWay);
        due.sentence("as far as all on the way (but itself) are alive on the day", TermsGroupsTest::butItself);
        due.sentence("as far as all on the way (but itself) are alive on the day", TermsGroupsTest::anotherWay);
        due.end();
    }

    private static void inAnotherOne() {
        TraderRights x = World.four();
        due.is("group(0, 1)", x.group(0, 1), 1);
        due.is("groups of the member", x.look(0, 5, 2), 1);
        due.is("groups of the group", x.look(1, 5, 2), 0);
        due.throwing("in itself", IllegalArgumentException.class, World::four, y -> y.group(0, 0));
    }

    /** Each trader is in the next one: up by one, or down by one. */
    private static TraderRights chain(int traders, boolean up) {
        TraderRights x = World.withTraders(traders);
        for (int t = 0; t + 1 < traders; t++) {
            due.is("chain", up ? x.group(t, t + 1) : x.group(t + 1, t), 1);
        }
        return x;
    }

    private static void noRings() {
        for (int n = 2; n <= 12; n++) {
            int traders = n;
            int last = n - 1;
            due.refused("a ring of " + n, 0, () -> chain(traders, true), x -> x.group(last, 0));
            due.refused("a ring of " + n + ", down", 0, () -> chain(traders, false), x -> x.group(0, last));
        }
        due.refused("a ring of some", 0, () -> chain(12, true), x -> x.group(9, 3));
        due.is("the same way once more is no ring", chain(12, true).group(3, 9), 1);
        Supplier<TraderRights> throughTheFirst = () -> {
            TraderRights x = World.four();
            x.group(1, 0);
            x.group(0, 2);
            x.group(2, 3);
            return x;
        };
        due.refused("a ring that goes up and down", 0, throughTheFirst, x -> x.group(3, 1));
    }

    private static void noRingsThroughThoseNotAlive() {
        Supplier<TraderRights> ended = () -> {
            TraderRights x = chain(3, true);
            for (int t = 0; t < 3; t++) {
                x.end(t, 0);
            }
            return x;
        };
        Supplier<TraderRights> suspended = () -> {
            TraderRights x = chain(3, true);
            for (int t = 0; t < 3; t++) {
                x.suspend(t, 0, true);
            }
            return x;
        };
        due.refused("a ring of ended ones", 0, ended, x -> x.group(2, 0));
        due.refused("a ring of suspended ones", 0, suspended, x -> x.group(2, 0));
    }

    private static void twoWaysAreNoRing() {
        TraderRights x = World.four();
        due.is("one way", x.group(0, 1), 1);
        due.is("one way, further", x.group(1, 3), 1);
        due.is("the other way", x.group(0, 2), 1);
        due.is("the other way, further", x.group(2, 3), 1);
        due.is("straight", x.group(0, 3), 1);
        due.is("across", x.group(1, 2), 1);
        due.is("across, back", x.group(2, 1), 0);
    }

    /** Trader 0 is in as many groups as told, from the last trader down. */
    private static TraderRights inGroups(int n) {
        TraderRights x = World.twelve();
        for (int i = 0; i < n; i++) {
            due.is("group number " + (i + 1), x.group(0, 11 - i), 1);
        }
        return x;
    }

    private static void aFifth() {
        due.is("groups of one in 4", inGroups(4).look(0, 5, 2), 4);
        for (int group = 1; group <= 7; group++) {
            int fifth = group;
            due.refused("a fifth one, " + group, 0, () -> inGroups(4), x -> x.group(0, fifth));
        }
        TraderRights x = World.twelve();
        for (int t = 0; t <= 7; t++) {
            for (int i = 1; i <= 4; i++) {
                due.is("each in 4", x.group(t, t + i), 1);
            }
        }
        due.is("all its groups are more than 4", x.look(0, 5, 2), 11);
        due.is("in 3 and all of them not alive", notAlive(inGroups(3)).group(0, 1), 1);
        due.is("in 4 and all of them not alive", notAlive(inGroups(4)).group(0, 1), 0);
    }

    private static TraderRights notAlive(TraderRights x) {
        for (int t = 6; t <= 11; t++) {
            x.end(t, 0);
        }
        return x;
    }

    private static void membersWithoutBound() {
        TraderRights x = World.twelve();
        x.right(11, 3, 3, 3, 3);
        for (int t = 0; t <= 10; t++) {
            due.is("member " + t, x.group(t, 11), 1);
        }
        for (int t = 0; t <= 10; t++) {
            due.is("member " + t + " has its right", x.may(t, 3, 3, 3), 0);
        }
        due.is("one in 4 as a group", inGroups(4).group(1, 0), 1);
    }

    private static void andSoOn() {
        for (int n = 2; n <= 12; n++) {
            groupsOfAChain(n, true);
            groupsOfAChain(n, false);
        }
        TraderRights x = World.twelve();
        int[] way = {5, 2, 9, 0, 11, 3, 7, 1, 10, 4, 8, 6};
        for (int i = 0; i < 11; i++) {
            x.group(way[i], way[i + 1]);
        }
        x.right(6, 1, 1, 0, 9);
        for (int i = 0; i < 12; i++) {
            due.is("groups on a way up and down", x.look(way[i], 5, 2), 11 - i);
            due.is("by the last on a way up and down", x.may(way[i], 1, 1, 5), 0);
        }
    }

    private static void groupsOfAChain(int n, boolean up) {
        TraderRights x = chain(n, up);
        int top = up ? n - 1 : 0;
        x.right(top, 1, 1, 0, 9);
        for (int t = 0; t < n; t++) {
            due.is("groups of " + t + " in a chain of " + n, x.look(t, 5, 2), up ? n - 1 - t : t);
            due.is("by the last of a chain of " + n, x.may(t, 1, 1, 5), 0);
        }
        int bottom = n - 1 - top;
        x.right(bottom, 3, 1, 0, 9);
        due.is("nothing goes down", x.may(top, 3, 1, 5), 7);
    }

    private static void eachOnce() {
        TraderRights x = World.withTraders(6);
        x.group(0, 1);
        x.group(0, 2);
        x.group(1, 3);
        x.group(2, 3);
        x.group(3, 4);
        x.group(0, 4);
        due.is("two ways and three ways", x.look(0, 5, 2), 4);
        due.is("told once more", x.group(0, 4), 0);
        due.is("two ways and three ways still", x.look(0, 5, 2), 4);
    }

    /** The way 0, 1, 2, 3, of which 3 has the right. */
    private static TraderRights way() {
        TraderRights x = chain(4, true);
        x.right(3, 6, 6, 0, 100000);
        return x;
    }

    private static void allOnTheWay() {
        int[] groups = {0, 0, 1, 2};
        for (int t = 1; t <= 3; t++) {
            TraderRights x = way();
            x.suspend(t, 10, true);
            x.suspend(t, 20, false);
            x.end(t, 30);
            for (int day : new int[] {10, 19, 30, 100000}) {
                due.is("groups, " + t + " not alive on " + day, x.look(0, day, 2), groups[t]);
                due.is("by them, " + t + " not alive on " + day, x.may(0, 6, 6, day), 7);
                due.is("acts, " + t + " not alive on " + day, x.look(0, day, 3), 0);
            }
            for (int day : new int[] {0, 9, 20, 29}) {
                due.is("groups, all alive on " + day, x.look(0, day, 2), 3);
                due.is("by them, all alive on " + day, x.may(0, 6, 6, day), 0);
                due.is("acts, all alive on " + day, x.look(0, day, 3), 1);
            }
        }
    }

    private static void butItself() {
        TraderRights x = way();
        x.end(0, 5);
        due.is("groups of an ended one", x.look(0, 5, 2), 3);
        due.is("acts of an ended one", x.look(0, 5, 3), 1);
        TraderRights y = way();
        y.suspend(0, 5, true);
        due.is("groups of a suspended one", y.look(0, 5, 2), 3);
        due.is("acts of a suspended one", y.look(0, 5, 3), 1);
    }

    private static void anotherWay() {
        TraderRights x = way();
        x.end(1, 0);
        due.is("no way", x.look(0, 5, 2), 0);
        x.group(0, 2);
        due.is("past the one that is not alive", x.look(0, 5, 2), 2);
        due.is("by a way past it", x.may(0, 6, 6, 5), 0);
    }
}
