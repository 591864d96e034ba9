public final class Promise05GroupTest {
    private static final Due due = new Due();

    public static void main(String[] args) {
        ordinary();
        alive();
        longest();
        diamond();
        refused();
        wrong();
        due.end();
    }

    private static void ordinary() {
        TraderRights x = World.four();
        x.right(1, 2, TraderRights.NONE, 0, 9);
        x.right(2, 3, TraderRights.NONE, 0, 9);
        due.is("group(0, 1)", x.group(0, 1), 1);
        due.is("group(1, 2)", x.group(1, 2), 1);
        due.is("by the group's row", x.may(0, 2, 0, 5), 0);
        due.is("by the group's group's row", x.may(0, 3, 0, 5), 0);
        due.is("a group has nothing by its members", x.may(2, 2, 0, 5), 7);
        due.is("groups of 0", x.look(0, 5, 2), 2);
        due.is("groups of 1", x.look(1, 5, 2), 1);
        due.is("groups of 2", x.look(2, 5, 2), 0);
    }

    private static void alive() {
        TraderRights x = World.four();
        x.right(2, 3, TraderRights.NONE, 0, 100);
        x.group(0, 1);
        x.group(1, 2);
        x.end(2, 20);
        due.is("groups before the last one's end", x.look(0, 19, 2), 2);
        due.is("groups behind the last one's end", x.look(0, 20, 2), 1);
        due.is("by an ended group", x.may(0, 3, 0, 20), 7);
        x.suspend(1, 10, true);
        due.is("groups behind a suspended one", x.look(0, 15, 2), 0);
        due.is("through a suspended group", x.may(0, 3, 0, 15), 7);
        due.is("groups of the suspended one itself", x.look(1, 15, 2), 1);
        due.is("acts of the suspended one itself", x.look(1, 15, 3), 1);
        x.group(0, 2);
        due.is("another way round the suspended group", x.may(0, 3, 0, 15), 0);
    }

    private static void longest() {
        TraderRights x = World.withTraders(12);
        for (int t = 11; t > 0; t--) {
            due.is("chain", x.group(t, t - 1), 1);
        }
        x.right(0, 6, 6, 0, 9);
        due.is("groups at the end of the chain", x.look(11, 0, 2), 11);
        due.is("through the whole chain", x.may(11, 6, 6, 0), 0);
        due.is("a ring of all", x.group(0, 11), 0);
        due.is("a ring of some", x.group(3, 9), 0);

        TraderRights y = World.four();
        y.group(1, 0);
        y.group(0, 2);
        y.group(2, 3);
        y.right(3, 6, 6, 0, 9);
        due.is("groups on a way through the first trader", y.look(1, 0, 2), 3);
        due.is("on a way through the first trader", y.may(1, 6, 6, 0), 0);
        due.is("a ring through the first trader", y.group(3, 1), 0);
    }

    private static void diamond() {
        TraderRights x = World.four();
        x.group(0, 1);
        x.group(0, 2);
        x.group(1, 3);
        due.is("two ways to one group", x.group(2, 3), 1);
        due.is("counted once", x.look(0, 0, 2), 3);
    }

    private static TraderRights chained() {
        TraderRights x = World.four();
        x.group(0, 1);
        x.group(1, 2);
        return x;
    }

    private static TraderRights inFour() {
        TraderRights x = World.withTraders(12);
        for (int g = 1; g <= 4; g++) {
            due.is("group number " + g, x.group(0, g + 5), 1);
        }
        return x;
    }

    private static void refused() {
        due.refused("in it already", 0, Promise05GroupTest::chained, x -> x.group(0, 1));
        due.refused("a ring of two", 0, Promise05GroupTest::chained, x -> x.group(1, 0));
        due.refused("a ring of three", 0, Promise05GroupTest::chained, x -> x.group(2, 0));
        due.refused("a fifth group", 0, Promise05GroupTest::inFour, x -> x.group(0, 1));
        due.refused("a ring through ended ones", 0, Promise05GroupTest::chainedAndEnded, x -> x.group(2, 0));
        due.is("one more member of the same group", inFour().group(1, 6), 1);
        due.is("in a group that is in four", inFour().group(1, 0), 1);
    }

    private static TraderRights chainedAndEnded() {
        TraderRights x = chained();
        x.end(1, 0);
        x.end(0, 0);
        return x;
    }

    private static void wrong() {
        for (int t : World.WRONG_TRADERS) {
            due.throwing("trader " + t, IllegalArgumentException.class, World::four, x -> x.group(t, 0));
            due.throwing("group " + t, IllegalArgumentException.class, World::four, x -> x.group(0, t));
        }
        due.throwing("the same", IllegalArgumentException.class, World::four, x -> x.group(2, 2));
    }
}
