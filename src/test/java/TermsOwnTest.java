/** Terms: what a trader has of its own, and what is forbidden to it. */
public final class TermsOwnTest {
    private static final Due due = new Due();

    public static void main(String[] args) {
        due.sentence("if it or one of its GROUPS has a row for these", TermsOwnTest::itself);
        due.sentence("if it or one of its GROUPS has a row for these", TermsOwnTest::oneOfItsGroups);
        due.sentence("if it or one of its GROUPS has a row for these", TermsOwnTest::oneRowForAllOfThese);
        due.sentence("(an act and a trader, told, or not any more)", TermsOwnTest::anActAndATrader);
        due.sentence("(an act and a trader, told, or not any more)", TermsOwnTest::notAnyMore);
        due.sentence("is none of that trader's own, nor by groups", TermsOwnTest::noneOfItsOwn);
        due.sentence("its deputies and those with its mandate don't have it by it", TermsOwnTest::notByIt);
        due.sentence("(those that are in it as a group have it by its rows all the same)", TermsOwnTest::byItsRows);
        due.end();
    }

    private static void itself() {
        TraderRights x = World.four();
        due.is("without a row", x.look(0, 5, 3), 0);
        x.right(0, 3, 7, 5, 5);
        due.is("with a row", x.look(0, 5, 3), 1);
        due.is("may", x.may(0, 3, 7, 5), 0);
    }

    private static void oneOfItsGroups() {
        TraderRights x = World.withTraders(6);
        x.group(0, 1);
        x.group(0, 2);
        x.group(2, 3);
        x.right(3, 3, 7, 5, 5);
        x.right(1, 4, 7, 5, 5);
        x.right(5, 5, 7, 5, 5);
        due.is("by a group's group", x.may(0, 3, 7, 5), 0);
        due.is("by a group", x.may(0, 4, 7, 5), 0);
        due.is("by one that is no group of it", x.may(0, 5, 7, 5), 7);
        due.is("acts by both", x.look(0, 5, 3), 2);
        due.is("a group by another group of its member", x.may(1, 3, 7, 5), 7);
    }

    private static void oneRowForAllOfThese() {
        TraderRights x = World.four();
        x.group(0, 1);
        x.right(0, 3, 4, 5, 5);
        x.right(1, 2, 7, 5, 5);
        x.right(1, 3, 7, 6, 6);
        due.is("the act here, the place and the day there", x.may(0, 3, 7, 5), 7);
        due.is("the act and the place here, the day there", x.may(0, 3, 4, 6), 7);
        due.is("all in one row of the group", x.may(0, 3, 7, 6), 0);
        due.is("all in one row of its own", x.may(0, 3, 4, 5), 0);
    }

    /** 0 and 1 have all acts of their own. */
    private static TraderRights withAllActs() {
        TraderRights x = World.four();
        for (int act = 0; act <= 7; act++) {
            x.right(0, act, World.ANYWHERE, 0, 9);
            x.right(1, act, World.ANYWHERE, 0, 9);
        }
        return x;
    }

    private static void anActAndATrader() {
        for (int forbidden = 0; forbidden <= 7; forbidden++) {
            TraderRights x = withAllActs();
            x.forbid(0, forbidden, true);
            due.is("acts but one", x.look(0, 5, 3), 7);
            due.is("acts of another trader", x.look(1, 5, 3), 8);
            for (int act = 0; act <= 7; act++) {
                due.is("may " + act + ", forbidden " + forbidden, x.may(0, act, 0, 5), act == forbidden ? 4 : 0);
                due.is("another trader may " + act, x.may(1, act, 0, 5), 0);
            }
        }
    }

    private static void notAnyMore() {
        TraderRights x = withAllActs();
        x.forbid(0, 3, true);
        x.forbid(0, 4, true);
        x.forbid(1, 3, true);
        x.forbid(0, 3, false);
        due.is("not any more", x.may(0, 3, 0, 5), 0);
        due.is("another act still", x.may(0, 4, 0, 5), 4);
        due.is("another trader still", x.may(1, 3, 0, 5), 4);
        due.yes("told once more", x.forbid(0, 3, true));
        due.is("forbidden once more", x.may(0, 3, 0, 5), 4);
        due.is("acts but two", x.look(0, 5, 3), 6);
    }

    private static void noneOfItsOwn() {
        TraderRights x = World.four();
        x.right(0, 3, World.ANYWHERE, 0, 9);
        x.forbid(0, 3, true);
        due.is("its own row", x.may(0, 3, 0, 5), 4);
        x.group(1, 0);
        x.group(2, 1);
        x.forbid(2, 3, true);
        due.is("by a group", x.may(1, 3, 0, 5), 0);
        due.is("forbidden, by a group", x.may(2, 3, 0, 5), 4);
        due.is("acts forbidden, by a group", x.look(2, 5, 3), 0);
        TraderRights y = World.four();
        y.forbid(0, 3, true);
        y.right(0, 3, World.ANYWHERE, 0, 9);
        due.is("a row told behind the forbidding", y.may(0, 3, 0, 5), 4);
    }

    private static void notByIt() {
        TraderRights x = World.withTraders(5);
        x.right(0, 3, World.ANYWHERE, 0, 9);
        x.right(2, 0, World.ANYWHERE, 0, 9);
        x.deputy(0, 1);
        x.mandate(0, 2, false, 9);
        x.mandate(0, 3, true, 9);
        for (int t = 1; t <= 3; t++) {
            due.is("before it is forbidden, " + t, x.may(t, 3, 0, 5), 0);
        }
        x.forbid(0, 3, true);
        for (int t = 1; t <= 3; t++) {
            due.is("forbidden, " + t, x.may(t, 3, 0, 5), 7);
        }
        x.forbid(0, 3, false);
        x.forbid(1, 3, true);
        x.forbid(2, 3, true);
        x.forbid(3, 3, true);
        for (int t = 1; t <= 3; t++) {
            due.is("forbidden to " + t + " alone, who may otherwise", x.may(t, 3, 0, 5), 0);
        }
    }

    private static void byItsRows() {
        TraderRights x = World.four();
        x.right(0, 3, World.ANYWHERE, 0, 9);
        x.group(1, 0);
        x.group(2, 1);
        x.forbid(0, 3, true);
        due.is("in the forbidden one", x.may(1, 3, 0, 5), 0);
        due.is("acts in the forbidden one", x.look(1, 5, 3), 1);
        x.forbid(1, 3, true);
        due.is("through a forbidden one", x.may(2, 3, 0, 5), 0);
        due.is("acts through a forbidden one", x.look(2, 5, 3), 1);
        x.deputy(2, 3);
        due.is("deputy of one that has it through a forbidden one", x.may(3, 3, 0, 5), 0);
    }
}
