import java.util.List;
import java.util.function.Function;
import java.util.function.LongSupplier;

/**
 * Ways to look at an object and to go on with it. Each tells all that was answered, and makes at most 270
 * calls, so that with what made the object they stay within the 512 that an object is good for.
 */
final class Probes {
    static final List<Function<TraderRights, String>> ALL = List.of(
            Probes::countsAndReading, Probes::looks, Probes::mays, Probes::maysOnEdgeDays, Probes::dones,
            Probes::roomLeft, Probes::forbids, Probes::groups, Probes::deputies, Probes::endsAndTwos);

    private static final int TRADERS = 12;

    private Probes() {
    }

    /** What a call answered, or throws. and the name of what it threw. */
    static String told(LongSupplier call) {
        try {
            return Long.toString(call.getAsLong());
        } catch (RuntimeException e) {
            return "throws." + e.getClass().getSimpleName();
        }
    }

    private static void add(StringBuilder all, LongSupplier call) {
        all.append(told(call)).append(' ');
    }

    private static String countsAndReading(TraderRights x) {
        StringBuilder all = new StringBuilder();
        for (int what = -1; what <= 6; what++) {
            int asked = what;
            add(all, () -> x.count(asked));
        }
        for (char c : "AAAAAZMAAAABAF".toCharArray()) {
            add(all, () -> x.certified());
            add(all, () -> x.check(c));
            add(all, () -> x.count(5));
        }
        return all.toString();
    }

    private static String looks(TraderRights x) {
        StringBuilder all = new StringBuilder();
        for (int day : new int[] {0, 5, 100000}) {
            for (int t = 0; t < TRADERS; t++) {
                for (int what = 0; what <= 6; what++) {
                    int who = t;
                    int asked = what;
                    add(all, () -> x.look(who, day, asked));
                }
            }
        }
        return all.toString();
    }

    private static String mays(TraderRights x) {
        return maysAt(x, 0, 5) + maysAt(x, 7, 5);
    }

    private static String maysOnEdgeDays(TraderRights x) {
        return maysAt(x, 0, 0) + maysAt(x, 3, 100000);
    }

    private static String maysAt(TraderRights x, int place, int day) {
        StringBuilder all = new StringBuilder();
        for (int t = 0; t < TRADERS; t++) {
            for (int act = 0; act <= 7; act++) {
                int who = t;
                int asked = act;
                add(all, () -> x.may(who, asked, place, day));
            }
        }
        return all.toString();
    }

    private static String dones(TraderRights x) {
        StringBuilder all = new StringBuilder();
        for (int act = 0; act <= 7; act++) {
            for (int pair = 0; pair < 25; pair++) {
                int asked = act;
                int first = pair / 5;
                int second = pair % 5;
                add(all, () -> x.done(asked, 0, 5, first, second));
            }
        }
        return all.toString();
    }

    private static String roomLeft(TraderRights x) {
        StringBuilder all = new StringBuilder();
        for (int i = 0; i <= TRADERS; i++) {
            add(all, () -> x.trader());
        }
        for (int i = 0; i <= 60; i++) {
            add(all, () -> x.right(0, 6, 6, 6, 6));
            add(all, () -> x.mandate(0, 1, false, 6));
            add(all, () -> x.suspend(1, 6, true));
        }
        for (int what = 0; what <= 6; what++) {
            int asked = what;
            add(all, () -> x.look(1, 6, asked));
            add(all, () -> x.may(asked, 6, 6, 6));
        }
        return all.toString();
    }

    private static String forbids(TraderRights x) {
        StringBuilder all = new StringBuilder();
        for (int t = 0; t < TRADERS; t++) {
            for (int act = 0; act <= 7; act++) {
                int who = t;
                int asked = act;
                add(all, () -> x.forbid(who, asked, true) ? 1 : 0);
                add(all, () -> x.may(who, asked, 0, 5));
            }
        }
        return all.toString();
    }

    private static String groups(TraderRights x) {
        StringBuilder all = new StringBuilder();
        for (int pair = 0; pair < TRADERS * TRADERS; pair++) {
            int who = pair / TRADERS;
            int group = pair % TRADERS;
            add(all, () -> x.group(who, group));
        }
        for (int t = 0; t < TRADERS; t++) {
            int who = t;
            add(all, () -> x.look(who, 5, 2));
        }
        return all.toString();
    }

    private static String deputies(TraderRights x) {
        StringBuilder all = new StringBuilder();
        for (int pair = 0; pair < TRADERS * TRADERS; pair++) {
            int who = pair % TRADERS;
            int deputy = pair / TRADERS;
            add(all, () -> x.deputy(who, deputy));
        }
        for (int t = 0; t < TRADERS; t++) {
            int who = t;
            add(all, () -> x.look(who, 5, 4));
            add(all, () -> x.look(who, 5, 5));
        }
        return all.toString();
    }

    private static String endsAndTwos(TraderRights x) {
        StringBuilder all = new StringBuilder();
        for (int t = 0; t < TRADERS; t++) {
            int who = t;
            add(all, () -> x.end(who, 50) ? 1 : 0);
            for (int day : new int[] {0, 4, 5, 6, 49, 50, 100000}) {
                add(all, () -> x.look(who, day, 0));
                add(all, () -> x.look(who, day, 1));
            }
        }
        for (int act = 0; act <= 7; act++) {
            int asked = act;
            add(all, () -> x.two(asked, true) ? 1 : 0);
            add(all, () -> x.done(asked, 0, 5, 0, 0));
        }
        return all.toString();
    }
}
