/** Terms: rights, their places, their days, and how many there can be. */
public final class TermsRightsTest {
    private static final Due due = new Due();

    public static void main(String[] args) {
        due.sentence("A RIGHT (60 at most)", TermsRightsTest::eachOf60Counts);
        due.sentence("A RIGHT (60 at most)", TermsRightsTest::the61st);
        due.sentence("is a trader's, for an act", TermsRightsTest::ofATraderForAnAct);
        due.sentence("at a place or (NONE) anywhere", TermsRightsTest::atAPlace);
        due.sentence("at a place or (NONE) anywhere", TermsRightsTest::anywhere);
        due.sentence("from a day to a day (both included)", TermsRightsTest::bothDaysIncluded);
        due.sentence("from a day to a day (both included)", TermsRightsTest::rowsDoNotGrowTogether);
        due.end();
    }

    /** Twelve traders, each with the acts 0 to 4. */
    private static TraderRights with60() {
        TraderRights x = World.twelve();
        for (int i = 0; i < 60; i++) {
            due.is("right number " + i, x.right(i % 12, i / 12, i % 8, i, i), i + 1);
        }
        return x;
    }

    private static TraderRights with60OfOne() {
        TraderRights x = World.withTraders(2);
        for (int i = 1; i <= 60; i++) {
            due.is("right of one trader, number " + i, x.right(0, 2, 3, 5, 5), i);
        }
        return x;
    }

    private static void eachOf60Counts() {
        TraderRights x = with60();
        due.is("rights", x.count(1), 60);
        for (int i = 0; i < 60; i++) {
            due.is("by right number " + i, x.may(i % 12, i / 12, i % 8, i), 0);
            due.is("the day behind right number " + i, x.may(i % 12, i / 12, i % 8, i + 1), 7);
            due.is("acts by right number " + i, x.look(i % 12, i, 3), 1);
        }
    }

    private static void the61st() {
        due.throwing("the 61st", IllegalStateException.class, TermsRightsTest::with60, x -> x.right(0, 7, 0, 0, 0));
        due.throwing("the 61st of another trader", IllegalStateException.class, TermsRightsTest::with60OfOne,
                x -> x.right(1, 7, 0, 0, 0));
        TraderRights x = with60();
        Probes.told(() -> x.right(11, 7, 7, 70, 70));
        due.is("by the 61st", x.may(11, 7, 7, 70), 7);
        due.is("by the 1st behind the 61st", x.may(0, 0, 0, 0), 0);
        due.is("by the 60th behind the 61st", x.may(11, 4, 3, 59), 0);
    }

    private static void ofATraderForAnAct() {
        TraderRights x = World.four();
        x.right(1, 2, 3, 5, 9);
        due.is("the trader and the act", x.may(1, 2, 3, 5), 0);
        due.is("the trader before", x.may(0, 2, 3, 5), 7);
        due.is("the trader behind", x.may(2, 2, 3, 5), 7);
        due.is("the act before", x.may(1, 1, 3, 5), 7);
        due.is("the act behind", x.may(1, 3, 3, 5), 7);
    }

    private static void atAPlace() {
        for (int place : new int[] {0, 4, 7}) {
            TraderRights x = World.four();
            x.right(1, 2, place, 5, 9);
            for (int other = 0; other <= 7; other++) {
                due.is("at " + other + ", told " + place, x.may(1, 2, other, 5), other == place ? 0 : 7);
            }
        }
    }

    private static void anywhere() {
        TraderRights x = World.four();
        due.is("right anywhere", x.right(1, 2, TraderRights.NONE, 5, 9), 1);
        for (int place = 0; place <= 7; place++) {
            due.is("at " + place, x.may(1, 2, place, 5), 0);
        }
        due.is("NONE is no place to do it at", x.may(1, 2, TraderRights.NONE, 5), 1);
        due.is("another act anywhere", x.may(1, 3, 0, 5), 7);
    }

    private static void bothDaysIncluded() {
        TraderRights x = World.four();
        x.right(0, 1, 2, 5, 9);
        due.is("the day before from", x.may(0, 1, 2, 4), 7);
        due.is("from", x.may(0, 1, 2, 5), 0);
        due.is("between", x.may(0, 1, 2, 7), 0);
        due.is("to", x.may(0, 1, 2, 9), 0);
        due.is("the day behind to", x.may(0, 1, 2, 10), 7);
        due.is("look, the day before from", x.look(0, 4, 3), 0);
        due.is("look, from", x.look(0, 5, 3), 1);
        due.is("look, to", x.look(0, 9, 3), 1);
        due.is("look, the day behind to", x.look(0, 10, 3), 0);
        x.right(1, 1, 2, 6, 6);
        due.is("the day before the only one", x.may(1, 1, 2, 5), 7);
        due.is("the only day", x.may(1, 1, 2, 6), 0);
        due.is("the day behind the only one", x.may(1, 1, 2, 7), 7);
        x.right(2, 1, 2, 0, 0);
        due.is("the first day of all", x.may(2, 1, 2, 0), 0);
        due.is("the day behind it", x.may(2, 1, 2, 1), 7);
        x.right(3, 1, 2, 100000, 100000);
        due.is("the last day of all", x.may(3, 1, 2, 100000), 0);
        due.is("the day before it", x.may(3, 1, 2, 99999), 7);
    }

    private static void rowsDoNotGrowTogether() {
        TraderRights x = World.four();
        x.right(0, 1, 2, 5, 6);
        x.right(0, 1, 2, 8, 9);
        x.right(0, 2, 3, 7, 7);
        due.is("the day between two rows", x.may(0, 1, 2, 7), 7);
        due.is("the act of one row at the place of another", x.may(0, 1, 3, 5), 7);
        due.is("the first row still", x.may(0, 1, 2, 6), 0);
        due.is("the second row too", x.may(0, 1, 2, 8), 0);
    }
}
