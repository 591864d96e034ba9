/** Terms: mandates, their last day, and how many there can be. */
public final class TermsMandatesTest {
    private static final Due due = new Due();

    public static void main(String[] args) {
        due.sentence("A MANDATE (60 at most)", TermsMandatesTest::eachOf60Counts);
        due.sentence("A MANDATE (60 at most)", TermsMandatesTest::the61st);
        due.sentence("goes from one trader to another one", TermsMandatesTest::fromOneToAnother);
        due.sentence("until a day (that included)", TermsMandatesTest::lastDayIncluded);
        due.sentence("direct or not", TermsMandatesTest::directOrNot);
        due.end();
    }

    /** Number i goes from i % 12, five to each, until day i; trader t has the right for act 1 at t % 8. */
    private static TraderRights with60() {
        TraderRights x = World.twelve();
        for (int t = 0; t < 12; t++) {
            x.right(t, 1, t % 8, 0, 100);
        }
        for (int i = 0; i < 60; i++) {
            due.is("mandate number " + i, x.mandate(i % 12, taker(i), true, i), i + 1);
        }
        return x;
    }

    private static int taker(int i) {
        return (i % 12 + 1 + i / 12) % 12;
    }

    private static TraderRights with60OfOne() {
        TraderRights x = World.four();
        for (int i = 1; i <= 60; i++) {
            due.is("mandate between two, number " + i, x.mandate(0, 1, false, 5), i);
        }
        return x;
    }

    private static void eachOf60Counts() {
        TraderRights x = with60();
        due.is("mandates", x.count(2), 60);
        for (int t = 0; t < 12; t++) {
            due.is("five of each", x.look(t, 0, 6), 5);
        }
        int[] left = new int[12];
        for (int i = 59; i >= 0; i--) {
            left[taker(i)]++;
            due.is("mandates left on day " + i, x.look(taker(i), i, 6), left[taker(i)]);
            due.is("by mandate number " + i, x.may(taker(i), 1, i % 12 % 8, i), 0);
        }
        due.is("60 of one", with60OfOne().look(1, 5, 6), 60);
    }

    private static void the61st() {
        due.throwing("the 61st", IllegalStateException.class, TermsMandatesTest::with60,
                x -> x.mandate(0, 11, true, 100));
        due.throwing("the 61st, of others", IllegalStateException.class, TermsMandatesTest::with60OfOne,
                x -> x.mandate(2, 3, true, 100));
        TraderRights x = with60();
        Probes.told(() -> x.mandate(0, 11, true, 100));
        due.is("by the 61st", x.look(11, 100, 6), 0);
        due.is("by the 60th behind the 61st", x.look(taker(59), 59, 6), 1);
    }

    private static void fromOneToAnother() {
        TraderRights x = World.four();
        x.right(1, 3, 3, 0, 9);
        x.right(2, 4, 4, 0, 9);
        due.is("from 1 to 2", x.mandate(1, 2, true, 9), 1);
        due.is("to whom it goes", x.may(2, 3, 3, 5), 0);
        due.is("not back", x.may(1, 4, 4, 5), 7);
        due.is("not to another one", x.may(3, 3, 3, 5), 7);
        due.is("mandates of 2", x.look(2, 5, 6), 1);
        due.is("mandates of 1", x.look(1, 5, 6), 0);
        due.is("the other way, too", x.mandate(2, 1, true, 9), 2);
        due.is("by the other one", x.may(1, 4, 4, 5), 0);
        due.throwing("to itself", IllegalArgumentException.class, World::four, y -> y.mandate(1, 1, true, 9));
    }

    private static void lastDayIncluded() {
        for (int until : new int[] {0, 10, 99999, 100000}) {
            for (int direct = 0; direct <= 1; direct++) {
                TraderRights x = World.four();
                x.right(0, 1, World.ANYWHERE, 0, 100000);
                x.right(1, 0, World.ANYWHERE, 0, 100000);
                x.mandate(0, 1, direct == 1, until);
                due.is("the first day of all", x.may(1, 1, 0, 0), 0);
                due.is("on day " + until, x.may(1, 1, 0, until), 0);
                due.is("look on day " + until, x.look(1, until, 6), 1);
                if (until < 100000) {
                    due.is("the day behind " + until, x.may(1, 1, 0, until + 1), 7);
                    due.is("look the day behind " + until, x.look(1, until + 1, 6), 0);
                }
            }
        }
    }

    private static void directOrNot() {
        TraderRights x = World.four();
        x.right(0, 1, World.ANYWHERE, 0, 9);
        x.mandate(0, 1, true, 9);
        x.mandate(0, 2, false, 9);
        due.is("direct", x.may(1, 1, 0, 5), 0);
        due.is("not direct", x.may(2, 1, 0, 5), 5);
        x.mandate(0, 2, true, 5);
        due.is("direct besides, on its last day", x.may(2, 1, 0, 5), 0);
        due.is("direct besides, behind it", x.may(2, 1, 0, 6), 5);
    }
}
