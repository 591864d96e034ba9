public final class Promise04ForbidTest {
    private static final Due due = new Due();

    public static void main(String[] args) {
        due.sentence("An act is FORBIDDEN to a trader, or not any more: true", Promise04ForbidTest::told);
        due.sentence("false if there is no such one", Promise04ForbidTest::noSuchOne);
        due.sentence("or it is so", Promise04ForbidTest::itIsSo);
        due.end();
    }

    private static void told() {
        for (int t = 0; t < 12; t++) {
            TraderRights x = World.twelve();
            for (int act = 0; act <= 7; act++) {
                due.yes("forbid " + act + " to " + t, x.forbid(t, act, true));
                due.is("forbidden " + act + " to " + t, x.may(t, act, 0, 0), 4);
            }
            for (int act = 0; act <= 7; act++) {
                due.yes("forbid " + act + " to " + t + " no more", x.forbid(t, act, false));
                due.is("forbidden " + act + " to " + t + " no more", x.may(t, act, 0, 0), 7);
            }
        }
    }

    private static void noSuchOne() {
        for (int t : World.WRONG_TRADERS) {
            due.refused("forbid to " + t, World::four, x -> x.forbid(t, 0, true));
            due.refused("forbid no more to " + t, World::four, x -> x.forbid(t, 0, false));
        }
        for (int act : World.WRONG_ACTS) {
            due.refused("forbid " + act, World::four, x -> x.forbid(0, act, true));
            due.refused("forbid no more " + act, World::four, x -> x.forbid(0, act, false));
        }
    }

    private static TraderRights forbidden() {
        TraderRights x = World.four();
        x.forbid(1, 0, true);
        x.forbid(1, 7, true);
        x.forbid(2, 3, true);
        x.forbid(2, 3, false);
        return x;
    }

    private static void itIsSo() {
        due.refused("forbidden, the first act", Promise04ForbidTest::forbidden, x -> x.forbid(1, 0, true));
        due.refused("forbidden, the last act", Promise04ForbidTest::forbidden, x -> x.forbid(1, 7, true));
        due.refused("never forbidden", Promise04ForbidTest::forbidden, x -> x.forbid(1, 3, false));
        due.refused("not forbidden any more", Promise04ForbidTest::forbidden, x -> x.forbid(2, 3, false));
        due.yes("forbidden to another trader only", forbidden().forbid(2, 0, true));
        due.yes("forbidden once more", forbidden().forbid(2, 3, true));
    }
}
