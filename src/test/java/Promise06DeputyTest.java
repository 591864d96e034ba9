public final class Promise06DeputyTest {
    private static final Due due = new Due();

    public static void main(String[] args) {
        ordinary();
        refused();
        wrong();
        due.end();
    }

    private static void ordinary() {
        TraderRights x = World.four();
        x.right(0, 1, TraderRights.NONE, 0, 9);
        x.right(1, 2, TraderRights.NONE, 0, 9);
        due.is("deputy(0, 1)", x.deputy(0, 1), 1);
        due.is("deputy of 0", x.look(0, 0, 4), 1);
        due.is("whose deputy is 1", x.look(1, 0, 5), 0);
        due.is("deputy of 1", x.look(1, 0, 4), -1);
        due.is("whose deputy is 0", x.look(0, 0, 5), -1);
        due.is("the deputy may", x.may(1, 1, 0, 5), 0);
        due.is("who has a deputy may not what the deputy may", x.may(0, 2, 0, 5), 7);
        due.is("another pair", x.deputy(3, 2), 1);
        due.is("whose deputy is 2", x.look(2, 0, 5), 3);
    }

    private static TraderRights paired() {
        TraderRights x = World.four();
        x.deputy(0, 1);
        return x;
    }

    private static void refused() {
        due.refused("the same again", 0, Promise06DeputyTest::paired, x -> x.deputy(0, 1));
        due.refused("the other way round", 0, Promise06DeputyTest::paired, x -> x.deputy(1, 0));
        due.refused("a second deputy", 0, Promise06DeputyTest::paired, x -> x.deputy(0, 2));
        due.refused("deputy of a second one", 0, Promise06DeputyTest::paired, x -> x.deputy(2, 1));
        due.refused("who has a deputy as one", 0, Promise06DeputyTest::paired, x -> x.deputy(2, 0));
        due.refused("a deputy's deputy", 0, Promise06DeputyTest::paired, x -> x.deputy(1, 2));
    }

    private static void wrong() {
        for (int t : World.WRONG_TRADERS) {
            due.throwing("trader " + t, IllegalArgumentException.class, World::four, x -> x.deputy(t, 0));
            due.throwing("deputy " + t, IllegalArgumentException.class, World::four, x -> x.deputy(0, t));
        }
        due.throwing("the same", IllegalArgumentException.class, World::four, x -> x.deputy(2, 2));
        due.throwing("the same, with a deputy", IllegalArgumentException.class, Promise06DeputyTest::paired,
                x -> x.deputy(0, 0));
    }
}
