public final class Promise11TwoTest {
    private static final Due due = new Due();

    public static void main(String[] args) {
        due.sentence("An act needs two, or not: true", Promise11TwoTest::told);
        due.sentence("false if there is no such act", Promise11TwoTest::noSuchAct);
        due.sentence("or it is so", Promise11TwoTest::itIsSo);
        due.end();
    }

    private static void told() {
        TraderRights x = new TraderRights();
        int bits = 0;
        for (int act = 0; act <= 7; act++) {
            due.yes("act " + act + " needs two", x.two(act, true));
            bits += 1 << act;
            due.is("acts that need two", x.count(4), bits);
        }
        for (int act = 0; act <= 7; act++) {
            due.yes("act " + act + " needs two no more", x.two(act, false));
            bits -= 1 << act;
            due.is("acts that need two", x.count(4), bits);
        }
        due.yes("once more", x.two(7, true));
    }

    private static TraderRights world() {
        TraderRights x = new TraderRights();
        x.two(0, true);
        x.two(3, true);
        x.two(5, true);
        x.two(5, false);
        return x;
    }

    private static void noSuchAct() {
        for (int act : World.WRONG_ACTS) {
            due.refused("act " + act + " needs two", Promise11TwoTest::world, x -> x.two(act, true));
            due.refused("act " + act + " needs two no more", Promise11TwoTest::world, x -> x.two(act, false));
        }
    }

    private static void itIsSo() {
        due.refused("needs two", Promise11TwoTest::world, x -> x.two(0, true));
        due.refused("needs two, another", Promise11TwoTest::world, x -> x.two(3, true));
        due.refused("never needed two", Promise11TwoTest::world, x -> x.two(7, false));
        due.refused("needs two no more", Promise11TwoTest::world, x -> x.two(5, false));
    }
}
