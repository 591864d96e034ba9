/** Terms: ends, suspensions, and who is alive. */
public final class TermsAliveTest {
    private static final Due due = new Due();

    public static void main(String[] args) {
        due.sentence("A trader is ENDED from a day on, once.", TermsAliveTest::fromADayOn);
        due.sentence("A trader is ENDED from a day on, once.", TermsAliveTest::once);
        due.sentence("SUSPENSIONS (60 at most)", TermsAliveTest::eachOf60Counts);
        due.sentence("SUSPENSIONS (60 at most)", TermsAliveTest::the61st);
        due.sentence("are told with a day, on or off", TermsAliveTest::onOrOff);
        due.sentence("the latest one told of those with the greatest day not behind it counts",
                TermsAliveTest::greatestDay);
        due.sentence("the latest one told of those with the greatest day not behind it counts",
                TermsAliveTest::latestTold);
        due.sentence("the latest one told of those with the greatest day not behind it counts",
                TermsAliveTest::notBehindIt);
        due.sentence("without one it is not suspended", TermsAliveTest::withoutOne);
        due.sentence("A trader is ALIVE on a day if it is neither ended nor suspended then.", TermsAliveTest::alive);
        due.end();
    }

    private static void fromADayOn() {
        for (int day : new int[] {0, 10, 100000}) {
            TraderRights x = World.four();
            x.right(0, 1, World.ANYWHERE, 0, 100000);
            due.yes("end on " + day, x.end(0, day));
            if (day > 0) {
                due.is("the day before " + day, x.look(0, day - 1, 0), 0);
                due.is("may the day before " + day, x.may(0, 1, 0, day - 1), 0);
            }
            due.is("the day " + day, x.look(0, day, 0), 1);
            due.is("may on " + day, x.may(0, 1, 0, day), 2);
            due.is("the last day of all", x.look(0, 100000, 0), 1);
            due.is("may on the last day of all", x.may(0, 1, 0, 100000), 2);
            due.is("another trader", x.look(1, 100000, 0), 0);
        }
    }

    private static void once() {
        for (int day : new int[] {0, 10, 100000}) {
            for (int again : new int[] {0, 9, 10, 11, 99999, 100000}) {
                TraderRights x = World.four();
                x.end(0, day);
                due.no("end on " + day + " and again on " + again, x.end(0, again));
                due.is("ended on the day told first", x.look(0, day, 0), 1);
                if (day > 0) {
                    due.is("not the day before it", x.look(0, day - 1, 0), 0);
                }
            }
        }
    }

    /** Of each of twelve traders five, on the days 0, 10, 20, 30, 40: on, off, on, off, on. */
    private static TraderRights with60() {
        TraderRights x = World.twelve();
        for (int i = 0; i < 60; i++) {
            due.is("suspension number " + i, x.suspend(i % 12, i / 12 * 10, i / 12 % 2 == 0), i + 1);
        }
        return x;
    }

    private static TraderRights with60OfOne() {
        TraderRights x = World.withTraders(2);
        for (int i = 1; i <= 60; i++) {
            due.is("suspension of one, number " + i, x.suspend(0, 5, i % 2 == 0), i);
        }
        return x;
    }

    private static void eachOf60Counts() {
        TraderRights x = with60();
        due.is("suspensions", x.count(3), 60);
        for (int i = 0; i < 60; i++) {
            int day = i / 12 * 10;
            due.is("by suspension number " + i, x.look(i % 12, day, 1), i / 12 % 2 == 0 ? 1 : 0);
            due.is("by suspension number " + i + ", later", x.look(i % 12, day + 9, 1), i / 12 % 2 == 0 ? 1 : 0);
        }
        due.is("the 60th of one counts", with60OfOne().look(0, 5, 1), 1);
    }

    private static void the61st() {
        due.throwing("the 61st", IllegalStateException.class, TermsAliveTest::with60, x -> x.suspend(0, 50, false));
        due.throwing("the 61st, of another trader", IllegalStateException.class, TermsAliveTest::with60OfOne,
                x -> x.suspend(1, 5, true));
        TraderRights x = with60();
        Probes.told(() -> x.suspend(3, 41, false));
        due.is("by the 61st", x.look(3, 41, 1), 1);
        due.is("by the 60th behind the 61st", x.look(11, 40, 1), 1);
        due.is("by the 1st behind the 61st", x.look(0, 0, 1), 1);
    }

    private static void onOrOff() {
        TraderRights x = World.four();
        x.right(0, 1, World.ANYWHERE, 0, 100000);
        due.is("on", x.suspend(0, 10, true), 1);
        due.is("off", x.suspend(0, 20, false), 2);
        due.is("the day before on", x.look(0, 9, 1), 0);
        due.is("the day of on", x.look(0, 10, 1), 1);
        due.is("may on the day of on", x.may(0, 1, 0, 10), 3);
        due.is("the day before off", x.look(0, 19, 1), 1);
        due.is("the day of off", x.look(0, 20, 1), 0);
        due.is("may on the day of off", x.may(0, 1, 0, 20), 0);
        due.is("off for good", x.look(0, 100000, 1), 0);
        x.suspend(1, 0, true);
        due.is("on the first day of all", x.look(1, 0, 1), 1);
        due.is("on for good", x.look(1, 100000, 1), 1);
        x.suspend(2, 100000, true);
        due.is("the day before the last one of all", x.look(2, 99999, 1), 0);
        due.is("on the last day of all", x.look(2, 100000, 1), 1);
    }

    private static void greatestDay() {
        TraderRights x = World.four();
        x.suspend(0, 20, true);
        x.suspend(0, 10, false);
        due.is("a lesser day told later: on the greater", x.look(0, 20, 1), 1);
        due.is("a lesser day told later: on the lesser", x.look(0, 10, 1), 0);
        x.suspend(0, 0, true);
        due.is("day 0 told last: on day 0", x.look(0, 0, 1), 1);
        due.is("day 0 told last: until the next", x.look(0, 9, 1), 1);
        due.is("day 0 told last: on the next", x.look(0, 19, 1), 0);
        x.suspend(0, 30, false);
        x.suspend(0, 25, true);
        due.is("told in between", x.look(0, 29, 1), 1);
        due.is("off behind it", x.look(0, 30, 1), 0);
    }

    private static void latestTold() {
        for (int day : new int[] {0, 20, 100000}) {
            TraderRights x = World.four();
            boolean[] told = {true, false, false, true, true, false};
            for (boolean on : told) {
                x.suspend(0, day, on);
                due.is("the latest told on " + day, x.look(0, day, 1), on ? 1 : 0);
                x.suspend(1, day, !on);
                due.is("not another trader's", x.look(0, day, 1), on ? 1 : 0);
            }
        }
    }

    private static void notBehindIt() {
        TraderRights x = World.four();
        x.suspend(0, 10, true);
        x.suspend(0, 11, false);
        due.is("the next day's off does not count yet", x.look(0, 10, 1), 1);
        due.is("on its day it does", x.look(0, 11, 1), 0);
        x.suspend(1, 11, true);
        due.is("the next day's on does not count yet", x.look(1, 10, 1), 0);
    }

    private static void withoutOne() {
        TraderRights x = World.four();
        due.is("nothing told, the first day", x.look(0, 0, 1), 0);
        due.is("nothing told, the last day", x.look(0, 100000, 1), 0);
        x.suspend(1, 0, true);
        due.is("of another trader", x.look(0, 0, 1), 0);
        x.suspend(0, 100000, true);
        due.is("only for a later day", x.look(0, 99999, 1), 0);
        x.suspend(2, 0, false);
        due.is("off without on", x.look(2, 0, 1), 0);
    }

    /** 0 is in the group 1, and 2 is the deputy of 1: both show whether 1 is alive. */
    private static void alive() {
        TraderRights x = World.four();
        x.right(1, 4, World.ANYWHERE, 0, 100000);
        x.group(0, 1);
        x.deputy(1, 2);
        x.suspend(1, 10, true);
        x.suspend(1, 20, false);
        x.end(1, 30);
        x.suspend(1, 40, true);
        x.suspend(1, 50, false);
        int[] days = {9, 10, 19, 20, 29, 30, 40, 50, 100000};
        boolean[] alive = {true, false, false, true, true, false, false, false, false};
        for (int i = 0; i < days.length; i++) {
            due.is("groups on " + days[i], x.look(0, days[i], 2), alive[i] ? 1 : 0);
            due.is("by the group on " + days[i], x.may(0, 4, 0, days[i]), alive[i] ? 0 : 7);
            due.is("its deputy on " + days[i], x.may(2, 4, 0, days[i]), alive[i] ? 0 : 6);
        }
    }
}
