/** Terms: acts that need two. */
public final class TermsTwoTest {
    private static final Due due = new Due();

    public static void main(String[] args) {
        due.sentence("an act that is told to need two", TermsTwoTest::toldToNeedTwo);
        due.sentence("is done by two different traders", TermsTwoTest::different);
        due.sentence("that may do it there then", TermsTwoTest::thereThen);
        due.sentence("neither of which is a deputy of the other", TermsTwoTest::noDeputies);
        due.end();
    }

    /** 0 and 1 have act 5 at place 2 on the days 5 to 9; it needs two. */
    private static TraderRights world() {
        TraderRights x = World.four();
        x.right(0, 5, 2, 5, 9);
        x.right(1, 5, 2, 5, 9);
        x.two(5, true);
        return x;
    }

    private static void toldToNeedTwo() {
        TraderRights x = world();
        for (int act = 0; act <= 7; act++) {
            if (act != 5) {
                x.right(0, act, 2, 5, 9);
                due.is("one for act " + act, x.done(act, 2, 5, 0, 0), 0);
                due.is("a second that may not, for act " + act, x.done(act, 2, 5, 0, 3), 0);
            }
        }
        due.is("one for act 5", x.done(5, 2, 5, 0, 0), 3);
        x.two(5, false);
        due.is("one, not any more", x.done(5, 2, 5, 0, 0), 0);
    }

    private static void different() {
        TraderRights x = world();
        due.is("two", x.done(5, 2, 5, 0, 1), 0);
        due.is("the same", x.done(5, 2, 5, 0, 0), 3);
        due.is("the other, the same", x.done(5, 2, 5, 1, 1), 3);
    }

    private static void thereThen() {
        TraderRights x = world();
        x.right(2, 5, 2, 7, 9);
        x.right(3, 5, 3, 5, 9);
        x.right(0, 5, 3, 5, 9);
        due.is("the second not yet then", x.done(5, 2, 6, 0, 2), 2);
        due.is("the second then", x.done(5, 2, 7, 0, 2), 0);
        due.is("the first not yet then", x.done(5, 2, 6, 2, 0), 1);
        due.is("the second not there", x.done(5, 2, 5, 0, 3), 2);
        due.is("the second there", x.done(5, 3, 5, 0, 3), 0);
        due.is("the first not there", x.done(5, 2, 5, 3, 0), 1);
        due.is("the day behind", x.done(5, 2, 10, 0, 1), 1);
    }

    private static void noDeputies() {
        TraderRights x = world();
        x.deputy(1, 2);
        due.is("the second is deputy of the first", x.done(5, 2, 5, 1, 2), 3);
        due.is("the first is deputy of the second", x.done(5, 2, 5, 2, 1), 3);
        due.is("a deputy of another one", x.done(5, 2, 5, 0, 2), 0);
        due.is("a deputy of another one, the other way", x.done(5, 2, 5, 2, 0), 0);
        due.is("one that has a deputy with another one", x.done(5, 2, 5, 1, 0), 0);
        x.right(2, 5, 2, 5, 9);
        due.is("though the deputy has it of its own", x.done(5, 2, 5, 1, 2), 3);
        x.mandate(0, 3, true, 9);
        due.is("a mandate does not matter", x.done(5, 2, 5, 0, 3), 0);
    }
}
