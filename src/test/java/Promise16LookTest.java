public final class Promise16LookTest {
    private static final Due due = new Due();

    public static void main(String[] args) {
        due.sentence("what 0: 1 if it is ended", Promise16LookTest::ended);
        due.sentence("1: 1 if it is suspended", Promise16LookTest::suspended);
        due.sentence("2: how many GROUPS it has", Promise16LookTest::groups);
        due.sentence("3: how many acts (at any place of 0 .. 7) it HAS OF ITS OWN (each act once)",
                Promise16LookTest::acts);
        due.sentence("3: how many acts (at any place of 0 .. 7) it HAS OF ITS OWN (each act once)",
                Promise16LookTest::anyPlace);
        due.sentence("3: how many acts (at any place of 0 .. 7) it HAS OF ITS OWN (each act once)",
                Promise16LookTest::ofItsOwn);
        due.sentence("4: its deputy, NONE without", Promise16LookTest::deputy);
        due.sentence("5: whose deputy it is, NONE without", Promise16LookTest::whoseDeputy);
        due.sentence("6: mandates until that day or later that it has", Promise16LookTest::mandates);
        due.sentence("IndexOutOfBoundsException if there is no such trader or what", Promise16LookTest::noSuchTrader);
        due.sentence("IndexOutOfBoundsException if there is no such trader or what", Promise16LookTest::noSuchWhat);
        due.sentence("IllegalArgumentException if there is no such day", Promise16LookTest::noSuchDay);
        due.sentence("Of a trader on a day", Promise16LookTest::onlyAsks);
        due.end();
    }

    private static void ended() {
        TraderRights x = World.four();
        due.is("not", x.look(1, 100000, 0), 0);
        x.end(1, 10);
        due.is("the day before", x.look(1, 9, 0), 0);
        due.is("that day", x.look(1, 10, 0), 1);
        due.is("another trader", x.look(2, 10, 0), 0);
        x.suspend(2, 0, true);
        due.is("suspended only", x.look(2, 10, 0), 0);
    }

    private static void suspended() {
        TraderRights x = World.four();
        due.is("not", x.look(1, 100000, 1), 0);
        x.suspend(1, 10, true);
        x.suspend(1, 20, false);
        due.is("the day before", x.look(1, 9, 1), 0);
        due.is("that day", x.look(1, 10, 1), 1);
        due.is("the last day", x.look(1, 19, 1), 1);
        due.is("off", x.look(1, 20, 1), 0);
        x.end(1, 15);
        due.is("suspended and ended", x.look(1, 15, 1), 1);
        x.end(2, 0);
        due.is("ended only", x.look(2, 10, 1), 0);
    }

    private static void groups() {
        TraderRights x = World.twelve();
        due.is("none", x.look(0, 0, 2), 0);
        for (int t = 0; t < 11; t++) {
            x.group(t, t + 1);
        }
        due.is("all others", x.look(0, 0, 2), 11);
        due.is("one", x.look(10, 0, 2), 1);
        due.is("none at the end", x.look(11, 0, 2), 0);
        x.end(6, 10);
        due.is("the day before one is ended", x.look(0, 9, 2), 11);
        due.is("the day one is ended", x.look(0, 10, 2), 5);
        due.is("of the ended one", x.look(6, 10, 2), 5);
    }

    private static void acts() {
        TraderRights x = World.four();
        due.is("none", x.look(0, 10, 3), 0);
        for (int act = 0; act <= 7; act++) {
            x.right(0, act, act, 0, 10 + act);
            due.is("acts 0 to " + act, x.look(0, 10, 3), act + 1);
        }
        due.is("all but one", x.look(0, 11, 3), 7);
        due.is("the last one", x.look(0, 17, 3), 1);
        due.is("none behind", x.look(0, 18, 3), 0);
        x.right(0, 3, World.ANYWHERE, 0, 100);
        x.right(0, 3, 3, 0, 100);
        x.group(0, 1);
        x.right(1, 3, 2, 0, 100);
        due.is("each act once", x.look(0, 10, 3), 8);
        due.is("each act once, alone", x.look(0, 18, 3), 1);
    }

    private static void anyPlace() {
        for (int place = -1; place <= 7; place++) {
            TraderRights x = World.four();
            x.right(0, 2, place, 5, 5);
            due.is("at place " + place, x.look(0, 5, 3), 1);
            due.is("at place " + place + ", another trader", x.look(1, 5, 3), 0);
        }
    }

    private static void ofItsOwn() {
        TraderRights x = World.four();
        x.right(0, 2, 2, 0, 100);
        x.right(0, 3, 3, 0, 100);
        x.forbid(0, 3, true);
        due.is("but for a forbidden one", x.look(0, 10, 3), 1);
        x.group(1, 0);
        due.is("by groups, forbidden to the group", x.look(1, 10, 3), 2);
        x.deputy(0, 2);
        x.mandate(0, 3, true, 100);
        due.is("not as a deputy", x.look(2, 10, 3), 0);
        due.is("not by a mandate", x.look(3, 10, 3), 0);
        x.end(1, 5);
        due.is("though it is ended itself", x.look(1, 10, 3), 2);
        x.end(0, 10);
        due.is("by a group, the day before its end", x.look(1, 9, 3), 2);
        due.is("not by an ended group", x.look(1, 10, 3), 0);
    }

    private static void deputy() {
        TraderRights x = World.twelve();
        due.is("without", x.look(11, 0, 4), -1);
        x.deputy(11, 0);
        x.deputy(1, 10);
        due.is("deputy 0", x.look(11, 0, 4), 0);
        due.is("deputy 10", x.look(1, 100000, 4), 10);
        due.is("a deputy has none", x.look(0, 0, 4), -1);
        x.end(11, 0);
        x.end(0, 0);
        due.is("though both are ended", x.look(11, 9, 4), 0);
    }

    private static void whoseDeputy() {
        TraderRights x = World.twelve();
        due.is("without", x.look(11, 0, 5), -1);
        x.deputy(0, 11);
        x.deputy(10, 1);
        due.is("deputy of 0", x.look(11, 0, 5), 0);
        due.is("deputy of 10", x.look(1, 100000, 5), 10);
        due.is("who has one is none", x.look(0, 0, 5), -1);
        x.end(11, 0);
        x.end(0, 0);
        due.is("though both are ended", x.look(11, 9, 5), 0);
    }

    private static void mandates() {
        TraderRights x = World.four();
        due.is("none", x.look(1, 0, 6), 0);
        x.mandate(0, 1, true, 10);
        x.mandate(0, 1, true, 10);
        x.mandate(2, 1, false, 11);
        x.mandate(1, 2, false, 100000);
        due.is("until that day or later", x.look(1, 10, 6), 3);
        due.is("one later", x.look(1, 11, 6), 1);
        due.is("none behind", x.look(1, 12, 6), 0);
        due.is("none that it gave", x.look(0, 0, 6), 0);
        due.is("the last day of all", x.look(2, 100000, 6), 1);
        x.end(0, 0);
        x.end(1, 0);
        due.is("of ended ones too", x.look(1, 10, 6), 3);
    }

    private static void noSuchTrader() {
        for (int t : World.WRONG_TRADERS) {
            for (int what = 0; what <= 6; what++) {
                int asked = what;
                due.throwing("trader " + t, IndexOutOfBoundsException.class, World::four, x -> x.look(t, 0, asked));
            }
        }
    }

    private static void noSuchWhat() {
        for (int what : new int[] {-1, 7, 8, Integer.MIN_VALUE, Integer.MAX_VALUE}) {
            due.throwing("what " + what, IndexOutOfBoundsException.class, World::four, x -> x.look(0, 0, what));
        }
    }

    private static void noSuchDay() {
        for (int day : World.WRONG_DAYS) {
            for (int what = 0; what <= 6; what++) {
                int asked = what;
                due.throwing("day " + day, IllegalArgumentException.class, World::four, x -> x.look(0, day, asked));
            }
        }
    }

    private static void onlyAsks() {
        int[] answers = {0, 0, 0, 1, 5, -1, 0};
        for (int what = 0; what <= 6; what++) {
            int asked = what;
            due.asks("look " + what, answers[what], World::busy, x -> x.look(0, 5, asked));
        }
    }
}
