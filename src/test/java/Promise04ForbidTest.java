public final class Promise04ForbidTest {
    private static final Due due = new Due();

    public static void main(String[] args) {
        ordinary();
        bystanders();
        refused();
        due.end();
    }

    private static void ordinary() {
        TraderRights x = World.four();
        x.right(0, 3, TraderRights.NONE, 0, 9);
        due.yes("forbid(0, 3, true)", x.forbid(0, 3, true));
        due.is("may what is forbidden", x.may(0, 3, 0, 5), 4);
        due.is("acts of its own", x.look(0, 5, 3), 0);
        due.yes("forbid(0, 3, false)", x.forbid(0, 3, false));
        due.is("may what is not forbidden any more", x.may(0, 3, 0, 5), 0);
        due.is("acts of its own again", x.look(0, 5, 3), 1);
        due.yes("forbid(0, 0, true)", x.forbid(0, 0, true));
        due.yes("forbid(0, 7, true)", x.forbid(0, 7, true));
        due.is("another act than the forbidden ones", x.may(0, 3, 0, 5), 0);
        due.yes("forbid(1, 7, true)", x.forbid(1, 7, true));
        due.yes("forbid(0, 7, false)", x.forbid(0, 7, false));
        due.is("still forbidden to another trader", x.may(1, 7, 0, 5), 4);
        due.is("not forbidden any more, and no right", x.may(0, 7, 0, 5), 7);
    }

    /** 0 has the row; 1 is in it as a group, 2 is its deputy, 3 has its mandate. */
    private static void bystanders() {
        TraderRights x = World.four();
        x.right(0, 3, TraderRights.NONE, 0, 9);
        x.group(1, 0);
        x.deputy(0, 2);
        x.mandate(0, 3, true, 9);
        x.forbid(0, 3, true);
        due.is("in it as a group", x.may(1, 3, 0, 5), 0);
        due.is("its deputy", x.may(2, 3, 0, 5), 7);
        due.is("with its mandate", x.may(3, 3, 0, 5), 7);
        x.forbid(1, 3, true);
        due.is("forbidden by groups too", x.may(1, 3, 0, 5), 4);
        x.forbid(0, 3, false);
        x.forbid(2, 3, true);
        x.forbid(3, 3, true);
        due.is("a forbidden deputy may otherwise", x.may(2, 3, 0, 5), 0);
        due.is("a forbidden one with a mandate may otherwise", x.may(3, 3, 0, 5), 0);
    }

    private static TraderRights forbidden() {
        TraderRights x = World.four();
        x.forbid(0, 3, true);
        return x;
    }

    private static void refused() {
        due.refused("forbid what is forbidden", 0, Promise04ForbidTest::forbidden, x -> x.forbid(0, 3, true) ? 1 : 0);
        due.refused("allow what is allowed", 0, Promise04ForbidTest::forbidden, x -> x.forbid(0, 2, false) ? 1 : 0);
        for (int t : World.WRONG_TRADERS) {
            due.refused("forbid, trader " + t, 0, World::four, x -> x.forbid(t, 0, true) ? 1 : 0);
            due.refused("allow, trader " + t, 0, World::four, x -> x.forbid(t, 0, false) ? 1 : 0);
        }
        for (int act : World.WRONG_ACTS) {
            due.refused("forbid, act " + act, 0, World::four, x -> x.forbid(0, act, true) ? 1 : 0);
            due.refused("allow, act " + act, 0, World::four, x -> x.forbid(0, act, false) ? 1 : 0);
        }
    }
}
