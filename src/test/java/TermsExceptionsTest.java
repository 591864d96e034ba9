import java.util.function.ToLongFunction;

/** Terms: calls for which two exceptions would be due. */
public final class TermsExceptionsTest {
    private static final String WORDS = "Of several exceptions the one told first is thrown.";
    private static final Due due = new Due();

    public static void main(String[] args) {
        due.sentence(WORDS, TermsExceptionsTest::ofAFullRowOfRights);
        due.sentence(WORDS, TermsExceptionsTest::ofAFullRowOfMandates);
        due.sentence(WORDS, TermsExceptionsTest::ofAFullRowOfSuspensions);
        due.sentence(WORDS, TermsExceptionsTest::ofALetter);
        due.sentence(WORDS, TermsExceptionsTest::ofALook);
        due.end();
    }

    private static void argument(String call, ToLongFunction<TraderRights> asking) {
        due.throwing(call, IllegalArgumentException.class, World::full, asking);
    }

    private static void ofAFullRowOfRights() {
        argument("no trader, and 60", x -> x.right(12, 0, 0, 0, 0));
        argument("no act, and 60", x -> x.right(0, 8, 0, 0, 0));
        argument("no place, and 60", x -> x.right(0, 0, 8, 0, 0));
        argument("no from, and 60", x -> x.right(0, 0, 0, -1, 0));
        argument("no to, and 60", x -> x.right(0, 0, 0, 0, 100001));
        argument("from behind to, and 60", x -> x.right(0, 0, 0, 1, 0));
        due.throwing("60 alone", IllegalStateException.class, World::full, x -> x.right(0, 0, 0, 0, 0));
    }

    private static void ofAFullRowOfMandates() {
        argument("no from, and 60", x -> x.mandate(12, 0, true, 0));
        argument("no to, and 60", x -> x.mandate(0, 12, true, 0));
        argument("the same, and 60", x -> x.mandate(1, 1, true, 0));
        argument("no day, and 60", x -> x.mandate(0, 1, true, 100001));
        due.throwing("60 alone", IllegalStateException.class, World::full, x -> x.mandate(0, 1, true, 0));
    }

    private static void ofAFullRowOfSuspensions() {
        argument("no trader, and 60", x -> x.suspend(12, 0, true));
        argument("no day, and 60", x -> x.suspend(0, -1, true));
        due.throwing("60 alone", IllegalStateException.class, World::full, x -> x.suspend(0, 0, true));
    }

    private static void ofALetter() {
        for (int i : new int[] {-1, 7}) {
            argument("no number and no letter", x -> x.letter(-1, i));
            argument("a number too large and no letter", x -> x.letter(100000000, i));
            due.throwing("no letter alone", IndexOutOfBoundsException.class, World::full, x -> x.letter(0, i));
        }
    }

    private static void ofALook() {
        for (int day : new int[] {-1, 100001}) {
            due.throwing("no trader and no day", IndexOutOfBoundsException.class, World::full, x -> x.look(12, day, 0));
            due.throwing("no what and no day", IndexOutOfBoundsException.class, World::full, x -> x.look(0, day, 7));
            due.throwing("what -1 and no day", IndexOutOfBoundsException.class, World::full, x -> x.look(0, day, -1));
            due.throwing("none of all", IndexOutOfBoundsException.class, World::full, x -> x.look(-1, day, 7));
            argument("no day alone", x -> x.look(0, day, 0));
        }
    }
}
