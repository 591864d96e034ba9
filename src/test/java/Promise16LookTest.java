public final class Promise16LookTest {
    private static final Due due = new Due();

    public static void main(String[] args) {
        acts();
        mandates();
        pairs();
        wrong();
        due.end();
    }

    private static void acts() {
        TraderRights x = World.four();
        for (int act = 0; act <= 7; act++) {
            x.right(0, act, act, 0, 10 + act);
        }
        due.is("all acts", x.look(0, 10, 3), 8);
        due.is("all but one", x.look(0, 11, 3), 7);
        due.is("the last one", x.look(0, 17, 3), 1);
        due.is("none", x.look(0, 18, 3), 0);
        x.right(0, 3, TraderRights.NONE, 0, 100);
        due.is("each act once", x.look(0, 10, 3), 8);
        due.is("one that is anywhere", x.look(0, 18, 3), 1);
        x.forbid(0, 3, true);
        due.is("but for a forbidden one", x.look(0, 10, 3), 7);
        x.group(1, 0);
        due.is("by groups, forbidden to the group", x.look(1, 10, 3), 8);
        x.deputy(0, 2);
        x.mandate(0, 3, true, 100);
        due.is("not by deputies", x.look(2, 10, 3), 0);
        due.is("not by mandates", x.look(3, 10, 3), 0);
        x.end(1, 5);
        due.is("though it is ended itself", x.look(1, 10, 3), 8);
        x.end(0, 5);
        due.is("not by ended groups", x.look(1, 10, 3), 0);
    }

    private static void mandates() {
        TraderRights x = World.four();
        x.mandate(0, 1, true, 10);
        x.mandate(0, 1, true, 10);
        x.mandate(2, 1, false, 11);
        x.mandate(1, 2, false, 100);
        due.is("until that day or later", x.look(1, 10, 6), 3);
        due.is("one later", x.look(1, 11, 6), 1);
        due.is("none", x.look(1, 12, 6), 0);
        due.is("none that it gave", x.look(0, 0, 6), 0);
        due.is("of another one", x.look(2, 100, 6), 1);
        x.end(0, 0);
        x.end(1, 0);
        due.is("of ended ones too", x.look(1, 10, 6), 3);
    }

    private static void pairs() {
        TraderRights x = World.four();
        due.is("no deputy", x.look(3, 0, 4), -1);
        due.is("no one's deputy", x.look(3, 0, 5), -1);
        x.deputy(3, 0);
        due.is("deputy 0", x.look(3, 0, 4), 0);
        due.is("whose deputy", x.look(0, 100000, 5), 3);
        x.end(3, 0);
        x.end(0, 0);
        due.is("deputy, though both are ended", x.look(3, 9, 4), 0);
        due.is("whose deputy, though both are ended", x.look(0, 9, 5), 3);
    }

    private static void wrong() {
        for (int t : World.WRONG_TRADERS) {
            due.throwing("trader " + t, IndexOutOfBoundsException.class, World::four, x -> x.look(t, 0, 0));
        }
        for (int what : new int[] {-1, 7, Integer.MIN_VALUE, Integer.MAX_VALUE}) {
            due.throwing("what " + what, IndexOutOfBoundsException.class, World::four, x -> x.look(0, 0, what));
        }
        for (int day : World.WRONG_DAYS) {
            for (int what = 0; what <= 6; what++) {
                int asked = what;
                due.throwing("day " + day, IllegalArgumentException.class, World::four, x -> x.look(0, day, asked));
            }
            due.throwing("day and trader", IndexOutOfBoundsException.class, World::four, x -> x.look(4, day, 0));
            due.throwing("day and what", IndexOutOfBoundsException.class, World::four, x -> x.look(0, day, 7));
        }
    }
}
