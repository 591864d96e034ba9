/** Terms: who can be whose deputy. */
public final class TermsDeputiesTest {
    private static final Due due = new Due();

    public static void main(String[] args) {
        due.sentence("a trader has at most one deputy", TermsDeputiesTest::oneDeputy);
        due.sentence("is a deputy of one trader at most", TermsDeputiesTest::ofOneTrader);
        due.sentence("who has a deputy can't be one", TermsDeputiesTest::whoHasOneCantBeOne);
        due.sentence("who is one can't have one", TermsDeputiesTest::whoIsOneCantHaveOne);
        due.end();
    }

    /** Deputy of 1 is 2; the first and the last trader are free. */
    private static TraderRights paired() {
        TraderRights x = World.four();
        due.is("deputy(1, 2)", x.deputy(1, 2), 1);
        return x;
    }

    private static void oneDeputy() {
        due.refused("a second one", 0, TermsDeputiesTest::paired, x -> x.deputy(1, 0));
        due.refused("a second one, the last trader", 0, TermsDeputiesTest::paired, x -> x.deputy(1, 3));
        due.refused("the same once more", 0, TermsDeputiesTest::paired, x -> x.deputy(1, 2));
        TraderRights ended = paired();
        ended.end(2, 0);
        due.is("a second one though the first is ended", ended.deputy(1, 0), 0);
        TraderRights x = World.twelve();
        for (int t = 0; t < 12; t += 2) {
            due.is("each has one", x.deputy(t, t + 1), 1);
        }
        for (int t = 0; t < 12; t++) {
            due.is("deputy of " + t, x.look(t, 5, 4), t % 2 == 0 ? t + 1 : -1);
            due.is("whose deputy is " + t, x.look(t, 5, 5), t % 2 == 0 ? -1 : t - 1);
        }
    }

    private static void ofOneTrader() {
        due.refused("of the first trader, too", 0, TermsDeputiesTest::paired, x -> x.deputy(0, 2));
        due.refused("of the last trader, too", 0, TermsDeputiesTest::paired, x -> x.deputy(3, 2));
        TraderRights ended = paired();
        ended.end(1, 0);
        due.is("of another one though the first is ended", ended.deputy(0, 2), 0);
    }

    private static void whoHasOneCantBeOne() {
        due.refused("of the first trader", 0, TermsDeputiesTest::paired, x -> x.deputy(0, 1));
        due.refused("of the last trader", 0, TermsDeputiesTest::paired, x -> x.deputy(3, 1));
        due.refused("of its own deputy", 0, TermsDeputiesTest::paired, x -> x.deputy(2, 1));
    }

    private static void whoIsOneCantHaveOne() {
        due.refused("the first trader", 0, TermsDeputiesTest::paired, x -> x.deputy(2, 0));
        due.refused("the last trader", 0, TermsDeputiesTest::paired, x -> x.deputy(2, 3));
        due.is("those that are free can", paired().deputy(3, 0), 1);
    }
}
