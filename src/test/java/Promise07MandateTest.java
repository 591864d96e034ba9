public final class Promise07MandateTest {
    private static final Due due = new Due();

    public static void main(String[] args) {
        due.sentence("A MANDATE: how many there are.", Promise07MandateTest::howMany);
        due.sentence("IllegalArgumentException if there are no such traders", Promise07MandateTest::noSuchTraders);
        due.sentence("they are the same", Promise07MandateTest::theSame);
        due.sentence("or there is no such day", Promise07MandateTest::noSuchDay);
        due.sentence("IllegalStateException if there are 60", Promise07MandateTest::thereAre60);
        due.end();
    }

    private static void howMany() {
        TraderRights x = World.four();
        due.is("first", x.mandate(0, 1, true, 10), 1);
        due.is("the same again", x.mandate(0, 1, true, 10), 2);
        due.is("the other way", x.mandate(1, 0, false, 10), 3);
        due.is("until the first day", x.mandate(3, 2, true, 0), 4);
        due.is("until the last day", x.mandate(2, 3, false, 100000), 5);
        due.is("count(2)", x.count(2), 5);
        x.end(0, 0);
        due.is("of an ended one", x.mandate(0, 1, true, 5), 6);
    }

    private static void noSuchTraders() {
        for (int t : World.WRONG_TRADERS) {
            due.throwing("from " + t, IllegalArgumentException.class, World::four, x -> x.mandate(t, 0, true, 0));
            due.throwing("to " + t, IllegalArgumentException.class, World::four, x -> x.mandate(0, t, false, 0));
            due.throwing("both " + t, IllegalArgumentException.class, World::four, x -> x.mandate(t, t, true, 0));
        }
        due.is("the first and the last", World.four().mandate(0, 3, true, 0), 1);
    }

    private static void theSame() {
        for (int t = 0; t < 4; t++) {
            int same = t;
            due.throwing("both " + t, IllegalArgumentException.class, World::four,
                    x -> x.mandate(same, same, true, 0));
        }
    }

    private static void noSuchDay() {
        for (int day : World.WRONG_DAYS) {
            due.throwing("until " + day, IllegalArgumentException.class, World::four, x -> x.mandate(0, 1, true, day));
            due.throwing("until " + day + ", not direct", IllegalArgumentException.class, World::four,
                    x -> x.mandate(0, 1, false, day));
        }
        due.is("the first day", World.four().mandate(0, 1, true, 0), 1);
        due.is("the last day", World.four().mandate(0, 1, true, 100000), 1);
    }

    private static void thereAre60() {
        TraderRights x = World.four();
        for (int i = 1; i <= 60; i++) {
            due.is("mandate number " + i, x.mandate(i % 4, (i + 1) % 4, i % 2 == 0, i), i);
        }
        due.throwing("the 61st", IllegalStateException.class, World::full, y -> y.mandate(0, 1, true, 0));
        due.throwing("the 61st, not direct", IllegalStateException.class, World::full,
                y -> y.mandate(11, 0, false, 100000));
    }
}
