/** An object answers as it must until its 512th call. */
public final class CallsTest {
    private static final Due due = new Due();

    public static void main(String[] args) {
        String words = "An object is used for at most 512 calls after it has been made";
        due.sentence(words, CallsTest::letters);
        due.sentence(words, CallsTest::questions);
        due.sentence(words, CallsTest::changes);
        due.sentence(words, CallsTest::refusals);
        due.end();
    }

    private static void letters() {
        TraderRights x = new TraderRights();
        for (int round = 0; round < 73; round++) {
            due.is("round " + round, World.read(x, round % 2 == 0 ? "AAAAAZM" : "IKVOZVH"), 1);
        }
        due.is("the 512th call", x.certified(), 25);
        TraderRights y = new TraderRights();
        World.read(y, "ZZZZZ".repeat(102));
        due.is("the 511th letter", y.check('Z'), -1);
        due.is("the 512th letter", y.check('Z'), 0);
    }

    private static void questions() {
        TraderRights x = World.twelve();
        x.right(11, 7, 7, 0, 100000);
        for (int call = 14; call <= 512; call++) {
            due.is("call " + call, x.may(11, 7, 7, 100000), 0);
        }
    }

    private static void changes() {
        TraderRights x = World.four();
        for (int call = 5; call <= 511; call++) {
            due.yes("call " + call, x.forbid(3, (call - 5) / 2 % 8, call % 2 == 1));
        }
        due.is("the 512th call", x.may(3, 5, 0, 0), 4);
    }

    private static void refusals() {
        for (int kind = 0; kind < 3; kind++) {
            TraderRights x = World.full();
            int calls = 209;
            int asked = kind;
            while (calls < 512) {
                calls++;
                String told = Probes.told(() -> asked == 0 ? x.right(0, 0, 0, 0, 0)
                        : asked == 1 ? x.mandate(0, 1, true, 0) : x.suspend(0, 0, true));
                due.yes("call " + calls + " answers " + told, told.equals("throws.IllegalStateException"));
            }
        }
    }
}
