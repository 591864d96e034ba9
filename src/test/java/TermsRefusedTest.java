import java.util.ArrayList;
import java.util.List;
import java.util.function.Supplier;
import java.util.function.ToLongFunction;

/** Terms: every kind of call that throws or is refused, on an object where much is told and on a full one. */
public final class TermsRefusedTest {
    private static final int NO_TRADER = 12;
    private static final Class<? extends RuntimeException> STATE = IllegalStateException.class;
    private static final Class<? extends RuntimeException> ARGUMENT = IllegalArgumentException.class;
    private static final Class<? extends RuntimeException> INDEX = IndexOutOfBoundsException.class;
    private static final List<Supplier<TraderRights>> WORLDS = List.of(World::busy, World::full);
    private static final Due due = new Due();

    public static void main(String[] args) {
        due.sentence("What throws or is refused changes nothing.", TermsRefusedTest::wrongRights);
        due.sentence("What throws or is refused changes nothing.", TermsRefusedTest::wrongPairs);
        due.sentence("What throws or is refused changes nothing.", TermsRefusedTest::wrongDays);
        due.sentence("What throws or is refused changes nothing.", TermsRefusedTest::wrongQuestions);
        due.sentence("What throws or is refused changes nothing.", TermsRefusedTest::whatIsSo);
        due.sentence("What throws or is refused changes nothing.", TermsRefusedTest::whatIsFull);
        due.sentence("What throws or is refused changes nothing.", TermsRefusedTest::manyInARow);
        due.end();
    }

    private static void throwing(String call, Class<? extends RuntimeException> want,
            ToLongFunction<TraderRights> asking) {
        for (Supplier<TraderRights> world : WORLDS) {
            due.throwing(call, want, world, asking);
        }
    }

    private static void refused(String call, ToLongFunction<TraderRights> asking) {
        for (Supplier<TraderRights> world : WORLDS) {
            due.refused(call, 0, world, asking);
        }
    }

    private static void wrongRights() {
        throwing("right, no trader", ARGUMENT, x -> x.right(NO_TRADER, 0, 0, 0, 0));
        throwing("right, no act", ARGUMENT, x -> x.right(0, 8, 0, 0, 0));
        throwing("right, no place", ARGUMENT, x -> x.right(0, 0, 8, 0, 0));
        throwing("right, no from", ARGUMENT, x -> x.right(0, 0, 0, -1, 0));
        throwing("right, no to", ARGUMENT, x -> x.right(0, 0, 0, 0, 100001));
        throwing("right, from behind to", ARGUMENT, x -> x.right(0, 0, 0, 5, 4));
        refused("forbid, no trader", x -> x.forbid(NO_TRADER, 0, true) ? 1 : 0);
        refused("forbid, no act", x -> x.forbid(0, 8, true) ? 1 : 0);
        refused("two, no act", x -> x.two(8, true) ? 1 : 0);
    }

    private static void wrongPairs() {
        for (int wrong : new int[] {-1, NO_TRADER}) {
            throwing("group, no trader", ARGUMENT, x -> x.group(wrong, 0));
            throwing("group, no group", ARGUMENT, x -> x.group(0, wrong));
            throwing("deputy, no trader", ARGUMENT, x -> x.deputy(wrong, 6));
            throwing("deputy, no deputy", ARGUMENT, x -> x.deputy(6, wrong));
            throwing("mandate, no from", ARGUMENT, x -> x.mandate(wrong, 0, true, 5));
            throwing("mandate, no to", ARGUMENT, x -> x.mandate(0, wrong, true, 5));
        }
        throwing("group, the same", ARGUMENT, x -> x.group(6, 6));
        throwing("deputy, the same", ARGUMENT, x -> x.deputy(6, 6));
        throwing("mandate, the same", ARGUMENT, x -> x.mandate(6, 6, true, 5));
    }

    private static void wrongDays() {
        for (int day : new int[] {-1, 100001}) {
            throwing("mandate, no day", ARGUMENT, x -> x.mandate(0, 1, true, day));
            throwing("suspend, no day", ARGUMENT, x -> x.suspend(0, day, true));
            refused("end, no day", x -> x.end(0, day) ? 1 : 0);
        }
        throwing("suspend, no trader", ARGUMENT, x -> x.suspend(NO_TRADER, 5, true));
        refused("end, no trader", x -> x.end(NO_TRADER, 5) ? 1 : 0);
    }

    private static void wrongQuestions() {
        throwing("letter, no number", ARGUMENT, x -> x.letter(100000000, 0));
        throwing("letter, none such", INDEX, x -> x.letter(25, 7));
        throwing("look, no trader", INDEX, x -> x.look(NO_TRADER, 5, 0));
        throwing("look, no what", INDEX, x -> x.look(0, 5, 7));
        throwing("look, no day", ARGUMENT, x -> x.look(0, 100001, 0));
        for (Supplier<TraderRights> world : WORLDS) {
            due.refused("may, no trader", 1, world, x -> x.may(NO_TRADER, 1, 0, 5));
            due.refused("done, no first", 1, world, x -> x.done(1, 0, 5, NO_TRADER, 0));
            due.refused("count, no what", -1, world, x -> x.count(6));
        }
        due.refused("done, no second", 2, World::busy, x -> x.done(1, 0, 5, 0, NO_TRADER));
    }

    private static void whatIsSo() {
        refused("forbid what is forbidden", x -> x.forbid(0, 2, true) ? 1 : 0);
        refused("allow what is not forbidden", x -> x.forbid(1, 2, false) ? 1 : 0);
        refused("in the group", x -> x.group(3, 0));
        refused("a ring", x -> x.group(0, 4));
        refused("the same deputy", x -> x.deputy(0, 5));
        refused("a second deputy", x -> x.deputy(0, 6));
        refused("a deputy of two", x -> x.deputy(6, 5));
        refused("a deputy of a deputy", x -> x.deputy(5, 6));
        refused("who has a deputy as one", x -> x.deputy(6, 0));
        refused("ended", x -> x.end(2, 5) ? 1 : 0);
        refused("needs two", x -> x.two(1, true) ? 1 : 0);
        refused("does not need two", x -> x.two(2, false) ? 1 : 0);
    }

    private static void whatIsFull() {
        due.throwing("the 13th trader", STATE, World::full, x -> x.trader());
        due.throwing("the 61st right", STATE, World::full, x -> x.right(0, 6, 6, 0, 9));
        due.throwing("the 61st mandate", STATE, World::full, x -> x.mandate(0, 1, true, 9));
        due.throwing("the 61st suspension", STATE, World::full, x -> x.suspend(0, 5, true));
    }

    /** What is refused leaves no room less, however often it is told. */
    private static void manyInARow() {
        List<ToLongFunction<TraderRights>> calls = new ArrayList<>();
        calls.add(x -> x.right(0, 8, 0, 0, 0));
        calls.add(x -> x.mandate(0, 0, true, 0));
        calls.add(x -> x.suspend(4, 0, true));
        calls.add(x -> x.group(0, 0));
        calls.add(x -> x.deputy(0, 0));
        calls.add(x -> x.look(0, 0, 7));
        calls.add(x -> x.end(0, -1) ? 1 : 0);
        for (ToLongFunction<TraderRights> call : calls) {
            TraderRights x = World.four();
            for (int i = 0; i < 70; i++) {
                Probes.told(() -> call.applyAsLong(x));
            }
            for (int i = 1; i <= 60; i++) {
                due.is("right number " + i, x.right(0, 1, 2, 3, 3), i);
                due.is("mandate number " + i, x.mandate(0, 1, true, 3), i);
                due.is("suspension number " + i, x.suspend(2, 3, true), i);
            }
            for (int i = 4; i < 12; i++) {
                due.is("trader number " + i, x.trader(), i);
            }
        }
    }
}
