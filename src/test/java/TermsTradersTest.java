/** Terms: how many traders there are, and that each of them is one of its own. */
public final class TermsTradersTest {
    private static final Due due = new Due();

    public static void main(String[] args) {
        due.sentence("TRADERS 0, 1, .. (12 at most).", TermsTradersTest::numbers);
        due.sentence("TRADERS 0, 1, .. (12 at most).", TermsTradersTest::notBelowTheirNumber);
        due.sentence("TRADERS 0, 1, .. (12 at most).", TermsTradersTest::rowsAreOfOneTrader);
        due.sentence("TRADERS 0, 1, .. (12 at most).", TermsTradersTest::pairsAreOfTwoTraders);
        due.end();
    }

    private static void numbers() {
        TraderRights x = new TraderRights();
        for (int i = 0; i < 12; i++) {
            due.is("trader() with " + i, x.trader(), i);
        }
        due.throwing("the 13th trader()", IllegalStateException.class, World::twelve, y -> y.trader());
        due.is("traders behind the 13th", behindThe13th().count(0), 12);
        due.is("may of number 12", behindThe13th().may(12, 0, 0, 0), 1);
    }

    private static TraderRights behindThe13th() {
        TraderRights x = World.twelve();
        Probes.told(() -> x.trader());
        return x;
    }

    private static void notBelowTheirNumber() {
        for (int n = 0; n <= 12; n++) {
            TraderRights x = World.withTraders(n);
            due.is("may of " + n + " among " + n, x.may(n, 0, 0, 0), 1);
            due.is("may of -1 among " + n, x.may(-1, 0, 0, 0), 1);
            if (n > 0) {
                due.is("may of the last among " + n, x.may(n - 1, 0, 0, 0), 7);
                due.is("right of the last among " + n, x.right(n - 1, 0, 0, 0, 0), 1);
                due.is("suspension of the last among " + n, x.suspend(n - 1, 0, true), 1);
                due.yes("forbid to the last among " + n, x.forbid(n - 1, 0, true));
                due.yes("end of the last among " + n, x.end(n - 1, 0));
                due.is("look at the last among " + n, x.look(n - 1, 0, 0), 1);
            }
        }
    }

    private static void rowsAreOfOneTrader() {
        for (int t = 0; t < 12; t++) {
            TraderRights x = World.twelve();
            x.right(t, 3, 3, 3, 3);
            x.forbid(t, 4, true);
            x.suspend(t, 50, true);
            x.end(t, 60);
            for (int other = 0; other < 12; other++) {
                boolean same = other == t;
                String of = " of " + other + ", told of " + t;
                due.is("right" + of, x.may(other, 3, 3, 3), same ? 0 : 7);
                due.is("forbidden act" + of, x.may(other, 4, 3, 3), same ? 4 : 7);
                due.is("suspension" + of, x.look(other, 50, 1), same ? 1 : 0);
                due.is("end" + of, x.look(other, 60, 0), same ? 1 : 0);
            }
        }
    }

    private static void pairsAreOfTwoTraders() {
        for (int t = 0; t < 12; t++) {
            int next = (t + 1) % 12;
            TraderRights x = World.twelve();
            due.is("group(" + t + ", " + next + ")", x.group(t, next), 1);
            due.is("deputy(" + t + ", " + next + ")", x.deputy(t, next), 1);
            due.is("mandate(" + t + ", " + next + ")", x.mandate(t, next, true, 5), 1);
            for (int other = 0; other < 12; other++) {
                due.is("groups of " + other, x.look(other, 5, 2), other == t ? 1 : 0);
                due.is("deputy of " + other, x.look(other, 5, 4), other == t ? next : -1);
                due.is("whose deputy is " + other, x.look(other, 5, 5), other == next ? t : -1);
                due.is("mandates of " + other, x.look(other, 5, 6), other == next ? 1 : 0);
            }
        }
    }
}
