public final class Promise11TwoTest {
    public static void main(String[] args) {
        Due due = new Due();
        TraderRights x = new TraderRights();
        due.yes("two(0, true)", x.two(0, true));
        due.yes("two(7, true)", x.two(7, true));
        due.is("bits of 0 and 7", x.count(4), 129);
        due.yes("two(3, true)", x.two(3, true));
        due.is("bits of 0, 3 and 7", x.count(4), 137);
        due.yes("two(0, false)", x.two(0, false));
        due.is("bits of 3 and 7", x.count(4), 136);

        due.refused("needs two already", 0, Promise11TwoTest::third, y -> y.two(3, true) ? 1 : 0);
        due.refused("does not need two already", 0, Promise11TwoTest::third, y -> y.two(2, false) ? 1 : 0);
        for (int act : World.WRONG_ACTS) {
            due.refused("needs, act " + act, 0, Promise11TwoTest::third, y -> y.two(act, true) ? 1 : 0);
            due.refused("does not need, act " + act, 0, Promise11TwoTest::third, y -> y.two(act, false) ? 1 : 0);
        }
        // as bits of an int 32 and more would fall on the act 0 and up
        due.refused("needs, act 35", 0, Promise11TwoTest::third, y -> y.two(35, true) ? 1 : 0);
        due.refused("does not need, act 35", 0, Promise11TwoTest::third, y -> y.two(35, false) ? 1 : 0);
        due.end();
    }

    private static TraderRights third() {
        TraderRights x = new TraderRights();
        x.two(3, true);
        return x;
    }
}
