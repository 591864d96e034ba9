public final class Promise05GroupTest {
    private static final Due due = new Due();

    public static void main(String[] args) {
        due.sentence("A trader is in a group: 1", Promise05GroupTest::isIn);
        due.sentence("0 if it is", Promise05GroupTest::itIs);
        due.sentence("a ring would come of it", Promise05GroupTest::aRing);
        due.sentence("or it is in 4", Promise05GroupTest::itIsIn4);
        due.sentence("IllegalArgumentException if there are no such traders", Promise05GroupTest::noSuchTraders);
        due.sentence("or they are the same", Promise05GroupTest::theSame);
        due.end();
    }

    private static TraderRights chained() {
        TraderRights x = World.withTraders(7);
        x.group(0, 1);
        x.group(1, 2);
        x.group(6, 5);
        x.group(5, 4);
        return x;
    }

    private static void isIn() {
        TraderRights x = World.four();
        x.right(1, 2, World.ANYWHERE, 0, 9);
        due.is("group(0, 1)", x.group(0, 1), 1);
        due.is("by the group's row", x.may(0, 2, 0, 5), 0);
        due.is("a group is in one, too", x.group(1, 3), 1);
        due.is("groups", x.look(0, 5, 2), 2);
        TraderRights y = World.four();
        y.end(1, 0);
        due.is("in an ended one", y.group(0, 1), 1);
        due.is("an ended one in another", y.group(1, 2), 1);
    }

    private static void itIs() {
        due.refused("in it", 0, Promise05GroupTest::chained, x -> x.group(0, 1));
        due.refused("in it, the group is in one", 0, Promise05GroupTest::chained, x -> x.group(1, 2));
        due.is("in it by another group only", chained().group(0, 2), 1);
    }

    private static void aRing() {
        due.refused("of two", 0, Promise05GroupTest::chained, x -> x.group(1, 0));
        due.refused("of two, down", 0, Promise05GroupTest::chained, x -> x.group(5, 6));
        due.refused("of three", 0, Promise05GroupTest::chained, x -> x.group(2, 0));
        due.refused("of three, down", 0, Promise05GroupTest::chained, x -> x.group(4, 6));
        due.is("none", chained().group(2, 6), 1);
    }

    private static TraderRights in4() {
        TraderRights x = World.twelve();
        for (int g = 1; g <= 4; g++) {
            due.is("group number " + g, x.group(3, g + 5), 1);
        }
        return x;
    }

    private static void itIsIn4() {
        due.refused("a fifth", 0, Promise05GroupTest::in4, x -> x.group(3, 0));
        due.refused("a fifth, the last trader", 0, Promise05GroupTest::in4, x -> x.group(3, 11));
        due.refused("the fourth once more", 0, Promise05GroupTest::in4, x -> x.group(3, 9));
        due.is("another one in the same group", in4().group(1, 6), 1);
        due.is("another one in it as a group", in4().group(1, 3), 1);
    }

    private static void noSuchTraders() {
        for (int t : World.WRONG_TRADERS) {
            due.throwing("trader " + t, IllegalArgumentException.class, World::four, x -> x.group(t, 0));
            due.throwing("group " + t, IllegalArgumentException.class, World::four, x -> x.group(0, t));
            due.throwing("both " + t, IllegalArgumentException.class, World::four, x -> x.group(t, t));
        }
    }

    private static void theSame() {
        for (int t = 0; t < 4; t++) {
            int same = t;
            due.throwing("both " + t, IllegalArgumentException.class, World::four, x -> x.group(same, same));
        }
        due.throwing("both, in 4", IllegalArgumentException.class, Promise05GroupTest::in4, x -> x.group(3, 3));
    }
}
