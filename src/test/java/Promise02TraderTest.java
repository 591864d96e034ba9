public final class Promise02TraderTest {
    public static void main(String[] args) {
        Due due = new Due();
        TraderRights x = new TraderRights();
        for (int i = 0; i < 12; i++) {
            due.is("trader() number " + i, x.trader(), i);
            due.is("count(0)", x.count(0), i + 1);
        }
        due.throwing("the 13th trader()", IllegalStateException.class,
                () -> World.withTraders(12), y -> y.trader());

        TraderRights fresh = World.withTraders(1);
        due.is("deputy of a new trader", fresh.look(0, 0, 4), -1);
        due.is("whose deputy a new trader is", fresh.look(0, 0, 5), -1);
        due.is("a new trader on day 0: ended", fresh.look(0, 0, 0), 0);
        due.is("a new trader on the last day: ended", fresh.look(0, 100000, 0), 0);
        due.is("a new trader on the last day: suspended", fresh.look(0, 100000, 1), 0);
        due.end();
    }
}
