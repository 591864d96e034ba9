public final class Promise06DeputyTest {
    private static final Due due = new Due();

    public static void main(String[] args) {
        due.sentence("A DEPUTY: 1", Promise06DeputyTest::isOne);
        due.sentence("0 if it can't be", Promise06DeputyTest::itCantBe);
        due.sentence("IllegalArgumentException if there are no such traders", Promise06DeputyTest::noSuchTraders);
        due.sentence("or they are the same", Promise06DeputyTest::theSame);
        due.end();
    }

    private static void isOne() {
        TraderRights x = World.four();
        x.right(0, 1, World.ANYWHERE, 0, 9);
        due.is("deputy(0, 1)", x.deputy(0, 1), 1);
        due.is("deputy of 0", x.look(0, 0, 4), 1);
        due.is("whose deputy is 1", x.look(1, 0, 5), 0);
        due.is("deputy of 1", x.look(1, 0, 4), -1);
        due.is("whose deputy is 0", x.look(0, 0, 5), -1);
        due.is("the deputy may", x.may(1, 1, 0, 5), 0);
        due.is("another pair", x.deputy(3, 2), 1);
        due.is("whose deputy is 2", x.look(2, 0, 5), 3);
        TraderRights ended = World.four();
        ended.end(0, 0);
        ended.end(1, 0);
        due.is("of ended ones", ended.deputy(0, 1), 1);
    }

    private static TraderRights paired() {
        TraderRights x = World.four();
        x.deputy(0, 1);
        return x;
    }

    private static void itCantBe() {
        due.refused("the same again", 0, Promise06DeputyTest::paired, x -> x.deputy(0, 1));
        due.refused("the other way round", 0, Promise06DeputyTest::paired, x -> x.deputy(1, 0));
        due.refused("a second deputy", 0, Promise06DeputyTest::paired, x -> x.deputy(0, 2));
        due.refused("deputy of a second one", 0, Promise06DeputyTest::paired, x -> x.deputy(2, 1));
        due.refused("who has a deputy as one", 0, Promise06DeputyTest::paired, x -> x.deputy(2, 0));
        due.refused("a deputy's deputy", 0, Promise06DeputyTest::paired, x -> x.deputy(1, 2));
    }

    private static void noSuchTraders() {
        for (int t : World.WRONG_TRADERS) {
            due.throwing("trader " + t, IllegalArgumentException.class, Promise06DeputyTest::paired,
                    x -> x.deputy(t, 2));
            due.throwing("deputy " + t, IllegalArgumentException.class, Promise06DeputyTest::paired,
                    x -> x.deputy(2, t));
            due.throwing("both " + t, IllegalArgumentException.class, World::four, x -> x.deputy(t, t));
        }
        due.throwing("no deputy for one that has one", IllegalArgumentException.class, Promise06DeputyTest::paired,
                x -> x.deputy(0, 4));
    }

    private static void theSame() {
        for (int t = 0; t < 4; t++) {
            int same = t;
            due.throwing("both " + t, IllegalArgumentException.class, Promise06DeputyTest::paired,
                    x -> x.deputy(same, same));
        }
    }
}
