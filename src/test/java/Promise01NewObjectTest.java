public final class Promise01NewObjectTest {
    private static final Due due = new Due();

    public static void main(String[] args) {
        due.sentence("No traders", Promise01NewObjectTest::noTraders);
        due.sentence("no act needs two", Promise01NewObjectTest::noActNeedsTwo);
        due.sentence("A new object", Promise01NewObjectTest::nothingElseEither);
        due.sentence("A new object", Promise01NewObjectTest::besideAnother);
        due.sentence("The constants: `NONE = -1`: None.", () -> due.is("NONE", TraderRights.NONE, -1));
        due.end();
    }

    private static void noTraders() {
        due.is("traders", new TraderRights().count(0), 0);
        due.is("may of trader 0", new TraderRights().may(0, 0, 0, 0), 1);
        due.is("done by trader 0", new TraderRights().done(0, 0, 0, 0, 0), 1);
        due.is("the first trader", new TraderRights().trader(), 0);
        due.throwing("look at trader 0", IndexOutOfBoundsException.class, TraderRights::new, x -> x.look(0, 0, 0));
        due.throwing("right of trader 0", IllegalArgumentException.class, TraderRights::new,
                x -> x.right(0, 0, 0, 0, 0));
        due.throwing("suspension of trader 0", IllegalArgumentException.class, TraderRights::new,
                x -> x.suspend(0, 0, true));
        due.throwing("mandate", IllegalArgumentException.class, TraderRights::new, x -> x.mandate(0, 1, true, 0));
        due.throwing("group", IllegalArgumentException.class, TraderRights::new, x -> x.group(0, 1));
        due.throwing("deputy", IllegalArgumentException.class, TraderRights::new, x -> x.deputy(0, 1));
        due.refused("forbid", TraderRights::new, x -> x.forbid(0, 0, true));
        due.refused("end", TraderRights::new, x -> x.end(0, 0));
    }

    private static void noActNeedsTwo() {
        due.is("acts that need two", new TraderRights().count(4), 0);
        for (int act = 0; act <= 7; act++) {
            int asked = act;
            due.refused("act " + act + " needs two no more", TraderRights::new, x -> x.two(asked, false));
            TraderRights x = World.withTraders(1);
            x.right(0, act, 0, 0, 0);
            due.is("act " + act + " by one", x.done(act, 0, 0, 0, 0), 0);
        }
    }

    private static void nothingElseEither() {
        TraderRights x = new TraderRights();
        for (int what = 1; what <= 5; what++) {
            due.is("count(" + what + ")", x.count(what), 0);
        }
        due.is("certified", x.certified(), -1);
    }

    private static void besideAnother() {
        World.full();
        TraderRights x = new TraderRights();
        World.busy();
        for (int what = 0; what <= 5; what++) {
            due.is("count(" + what + ") beside others", x.count(what), 0);
        }
        due.is("certified beside others", x.certified(), -1);
        due.is("trader beside others", x.trader(), 0);
        for (int what = 0; what <= 6; what++) {
            due.is("look " + what + " beside others", x.look(0, 9, what), what == 4 || what == 5 ? -1 : 0);
        }
    }
}
