import java.util.Arrays;

/**
 * Traders and what they may do. The numbered promises are in ../shared/DOC.md.
 *
 * Sets of traders and of acts are held as the bits of an int, so that no call makes an object.
 */
public final class TraderRights {
    public static final int NONE = -1;

    private static final int MOST_TRADERS = 12;
    private static final int MOST_ROWS = 60;
    private static final int MOST_GROUPS = 4;
    private static final int LAST_DAY = 100000;
    private static final int ACTS = 8;
    private static final int PLACES = 8;
    private static final int ACT_OF_INDIRECT = 0;
    private static final int LOOKS = 7;

    private static final int MAY = 0;
    private static final int NO_SUCH = 1;
    private static final int IS_ENDED = 2;
    private static final int IS_SUSPENDED = 3;
    private static final int IS_FORBIDDEN = 4;
    private static final int LACKS_ACT_OF_INDIRECT = 5;
    private static final int GIVER_NOT_ALIVE = 6;
    private static final int NO_WAY = 7;

    private static final int DONE = 0;
    private static final int FIRST_MAY_NOT = 1;
    private static final int SECOND_MAY_NOT = 2;
    private static final int NOT_TWO = 3;

    private static final int LAST_NUMBER = 99999999;
    private static final int BASE = 26;
    private static final int CHECK_MODULUS = 23;
    private static final int DIGITS = 6;
    private static final int LETTERS = 7;

    private int traders;
    private int actsOfTwo;
    private final int[] directGroups;
    private final int[] forbiddenActs;
    private final int[] deputies;
    private final int[] principals;
    private final int[] endDays;
    private final Rights rights;
    private final Mandates mandates;
    private final Suspensions suspensions;
    private final Reader reader;

    public TraderRights() {
        traders = 0;
        actsOfTwo = 0;
        directGroups = new int[MOST_TRADERS];
        forbiddenActs = new int[MOST_TRADERS];
        deputies = new int[MOST_TRADERS];
        principals = new int[MOST_TRADERS];
        endDays = new int[MOST_TRADERS];
        Arrays.fill(deputies, NONE);
        Arrays.fill(principals, NONE);
        Arrays.fill(endDays, NONE);
        rights = new Rights();
        mandates = new Mandates();
        suspensions = new Suspensions();
        reader = new Reader();
    }

    public int trader() throws IllegalStateException {
        if (traders >= MOST_TRADERS) {
            throw new IllegalStateException("there are 12 traders");
        }
        int number = traders;
        traders = traders + 1;
        return number;
    }

    public int right(int trader, int act, int place, int from, int to)
            throws IllegalArgumentException, IllegalStateException {
        if (!isTrader(trader) || !isAct(act) || !(place == NONE || isPlace(place))) {
            throw new IllegalArgumentException("no such trader, act or place");
        }
        if (!isDay(from) || !isDay(to) || from > to) {
            throw new IllegalArgumentException("no such days");
        }
        if (rights.size >= MOST_ROWS) {
            throw new IllegalStateException("there are 60 rights");
        }
        rights.append(trader, act, place, from, to);
        return rights.size;
    }

    public boolean forbid(int trader, int act, boolean is) {
        if (!isTrader(trader) || !isAct(act) || isForbidden(trader, act) == is) {
            return false;
        }
        forbiddenActs[trader] = forbiddenActs[trader] ^ bit(act);
        return true;
    }

    public int group(int trader, int group) throws IllegalArgumentException {
        if (!areTwoTraders(trader, group)) {
            throw new IllegalArgumentException("no such two traders");
        }
        int now = directGroups[trader];
        boolean ring = holds(groupsAmong(group, everyTrader()), trader);
        if (holds(now, group) || ring || Integer.bitCount(now) >= MOST_GROUPS) {
            return 0;
        }
        directGroups[trader] = now | bit(group);
        return 1;
    }

    public int deputy(int trader, int deputy) throws IllegalArgumentException {
        if (!areTwoTraders(trader, deputy)) {
            throw new IllegalArgumentException("no such two traders");
        }
        if (isInDeputyPair(trader) || isInDeputyPair(deputy)) {
            return 0;
        }
        deputies[trader] = deputy;
        principals[deputy] = trader;
        return 1;
    }

    public int mandate(int from, int to, boolean direct, int until)
            throws IllegalArgumentException, IllegalStateException {
        if (!areTwoTraders(from, to)) {
            throw new IllegalArgumentException("no such two traders");
        }
        if (!isDay(until)) {
            throw new IllegalArgumentException("no such day");
        }
        if (mandates.size >= MOST_ROWS) {
            throw new IllegalStateException("there are 60 mandates");
        }
        mandates.append(from, to, direct, until);
        return mandates.size;
    }

    public int suspend(int trader, int day, boolean on) throws IllegalArgumentException, IllegalStateException {
        if (!isTrader(trader) || !isDay(day)) {
            throw new IllegalArgumentException("no such trader or day");
        }
        if (suspensions.size >= MOST_ROWS) {
            throw new IllegalStateException("there are 60 suspensions");
        }
        suspensions.append(trader, day, on);
        return suspensions.size;
    }

    public boolean end(int trader, int day) {
        if (!isTrader(trader) || !isDay(day) || endDays[trader] != NONE) {
            return false;
        }
        endDays[trader] = day;
        return true;
    }

    public int may(int who, int act, int place, int day) {
        if (!isTrader(who) || !isAct(act) || !isPlace(place) || !isDay(day)) {
            return NO_SUCH;
        }
        if (isEnded(who, day)) {
            return IS_ENDED;
        }
        if (suspensions.isOn(who, day)) {
            return IS_SUSPENDED;
        }
        return answerForAlive(who, act, place, day);
    }

    public boolean two(int act, boolean needs) {
        if (!isAct(act) || needsTwo(act) == needs) {
            return false;
        }
        actsOfTwo = actsOfTwo ^ bit(act);
        return true;
    }

    public int done(int act, int place, int day, int first, int second) {
        if (may(first, act, place, day) != MAY) {
            return FIRST_MAY_NOT;
        }
        if (!needsTwo(act)) {
            return DONE;
        }
        if (may(second, act, place, day) != MAY) {
            return SECOND_MAY_NOT;
        }
        if (first == second || deputies[first] == second || deputies[second] == first) {
            return NOT_TWO;
        }
        return DONE;
    }

    public int letter(int number, int i) throws IllegalArgumentException, IndexOutOfBoundsException {
        if (number < 0 || number > LAST_NUMBER) {
            throw new IllegalArgumentException("no such number");
        }
        if (i < 0 || i >= LETTERS) {
            throw new IndexOutOfBoundsException("no such letter");
        }
        return 'A' + (i < DIGITS ? digit(number, i) : checkValue(number));
    }

    public int check(int c) {
        return reader.read(c);
    }

    public int certified() {
        return reader.latest;
    }

    public int look(int trader, int day, int what) throws IndexOutOfBoundsException, IllegalArgumentException {
        if (!isTrader(trader) || what < 0 || what >= LOOKS) {
            throw new IndexOutOfBoundsException("no such trader or what");
        }
        if (!isDay(day)) {
            throw new IllegalArgumentException("no such day");
        }
        switch (what) {
            case 0:
                return isEnded(trader, day) ? 1 : 0;
            case 1:
                return suspensions.isOn(trader, day) ? 1 : 0;
            case 2:
                return Integer.bitCount(groupsAmong(trader, aliveOn(day)));
            case 3:
                return Integer.bitCount(ownActs(trader, day));
            case 4:
                return deputies[trader];
            case 5:
                return principals[trader];
            default:
                return mandates.sizeOf(trader, day);
        }
    }

    public int count(int what) {
        switch (what) {
            case 0:
                return traders;
            case 1:
                return rights.size;
            case 2:
                return mandates.size;
            case 3:
                return suspensions.size;
            case 4:
                return actsOfTwo;
            case 5:
                return reader.lettersRead;
            default:
                return NONE;
        }
    }

    private boolean isTrader(int trader) {
        return trader >= 0 && trader < traders;
    }

    private boolean areTwoTraders(int one, int other) {
        return isTrader(one) && isTrader(other) && one != other;
    }

    private static boolean isAct(int act) {
        return act >= 0 && act < ACTS;
    }

    private static boolean isPlace(int place) {
        return place >= 0 && place < PLACES;
    }

    private static boolean isDay(int day) {
        return day >= 0 && day <= LAST_DAY;
    }

    private static int bit(int member) {
        return 1 << member;
    }

    private static boolean holds(int set, int member) {
        return (set >> member & 1) != 0;
    }

    private int everyTrader() {
        return bit(traders) - 1;
    }

    private boolean isForbidden(int trader, int act) {
        return holds(forbiddenActs[trader], act);
    }

    private boolean needsTwo(int act) {
        return holds(actsOfTwo, act);
    }

    private boolean isInDeputyPair(int trader) {
        return deputies[trader] != NONE || principals[trader] != NONE;
    }

    private boolean isEnded(int trader, int day) {
        return endDays[trader] != NONE && endDays[trader] <= day;
    }

    private int aliveOn(int day) {
        int alive = 0;
        for (int t = 0; t < traders; t++) {
            if (!isEnded(t, day) && !suspensions.isOn(t, day)) {
                alive = alive | bit(t);
            }
        }
        return alive;
    }

    /** The groups of a trader, groups of groups too, on ways that stay within a set of traders. */
    private int groupsAmong(int trader, int allowed) {
        int found = directGroups[trader] & allowed;
        // the first step is done above; a way without a ring has fewer steps than there are traders
        for (int step = 2; step < traders; step++) {
            found = found | (groupsOfAll(found) & allowed);
        }
        return found;
    }

    private int groupsOfAll(int members) {
        int all = 0;
        for (int t = 0; t < traders; t++) {
            if (holds(members, t)) {
                all = all | directGroups[t];
            }
        }
        return all;
    }

    /** Who has an act of its own; whether the owner itself is alive is not asked here. */
    private int ownersOf(int act, int place, int day, int alive) {
        int withRow = rights.tradersWith(act, place, day);
        int owners = 0;
        for (int t = 0; t < traders; t++) {
            int sources = bit(t) | groupsAmong(t, alive);
            if (!isForbidden(t, act) && (sources & withRow) != 0) {
                owners = owners | bit(t);
            }
        }
        return owners;
    }

    private int ownActs(int trader, int day) {
        int sources = bit(trader) | groupsAmong(trader, aliveOn(day));
        return rights.actsOf(sources, day) & ~forbiddenActs[trader];
    }

    private int answerForAlive(int who, int act, int place, int day) {
        int alive = aliveOn(day);
        int owners = ownersOf(act, place, day, alive);
        if (holds(owners, who)) {
            return MAY;
        }
        int direct = owners & (principalSet(who) | mandates.giversTo(who, true, day));
        int indirect = owners & mandates.giversTo(who, false, day);
        if ((direct & alive) != 0) {
            return MAY;
        }
        if ((indirect & alive) != 0 && holds(ownersOf(ACT_OF_INDIRECT, place, day, alive), who)) {
            return MAY;
        }
        if (isForbidden(who, act)) {
            return IS_FORBIDDEN;
        }
        if ((indirect & alive) != 0) {
            return LACKS_ACT_OF_INDIRECT;
        }
        // all that are alive have been dealt with above
        return (direct | indirect) != 0 ? GIVER_NOT_ALIVE : NO_WAY;
    }

    private int principalSet(int deputy) {
        return principals[deputy] == NONE ? 0 : bit(principals[deputy]);
    }

    private static int digit(int number, int i) {
        int rest = number;
        for (int k = DIGITS - 1; k > i; k--) {
            rest = rest / BASE;
        }
        return rest % BASE;
    }

    private static int checkValue(int number) {
        int sum = 0;
        for (int i = 0; i < DIGITS; i++) {
            sum = sum + (i + 1) * digit(number, i);
        }
        return sum % CHECK_MODULUS;
    }

    /** The rows of rights; who appends has looked that there is room. */
    private static final class Rights {
        private int size = 0;
        private final int[] trader = new int[MOST_ROWS];
        private final int[] act = new int[MOST_ROWS];
        private final int[] place = new int[MOST_ROWS];
        private final int[] from = new int[MOST_ROWS];
        private final int[] to = new int[MOST_ROWS];

        private void append(int whose, int what, int where, int first, int last) {
            trader[size] = whose;
            act[size] = what;
            place[size] = where;
            from[size] = first;
            to[size] = last;
            size = size + 1;
        }

        private int tradersWith(int what, int where, int day) {
            int found = 0;
            for (int i = 0; i < size; i++) {
                boolean there = place[i] == NONE || place[i] == where;
                if (act[i] == what && there && isOnDay(i, day)) {
                    found = found | bit(trader[i]);
                }
            }
            return found;
        }

        private int actsOf(int sources, int day) {
            int found = 0;
            for (int i = 0; i < size; i++) {
                if (holds(sources, trader[i]) && isOnDay(i, day)) {
                    found = found | bit(act[i]);
                }
            }
            return found;
        }

        private boolean isOnDay(int i, int day) {
            return from[i] <= day && day <= to[i];
        }
    }

    /** The rows of mandates; who appends has looked that there is room. */
    private static final class Mandates {
        private int size = 0;
        private final int[] giver = new int[MOST_ROWS];
        private final int[] taker = new int[MOST_ROWS];
        private final boolean[] isDirect = new boolean[MOST_ROWS];
        private final int[] until = new int[MOST_ROWS];

        private void append(int from, int to, boolean direct, int last) {
            giver[size] = from;
            taker[size] = to;
            isDirect[size] = direct;
            until[size] = last;
            size = size + 1;
        }

        private int giversTo(int who, boolean direct, int day) {
            int found = 0;
            for (int i = 0; i < size; i++) {
                if (taker[i] == who && isDirect[i] == direct && day <= until[i]) {
                    found = found | bit(giver[i]);
                }
            }
            return found;
        }

        private int sizeOf(int who, int day) {
            int found = 0;
            for (int i = 0; i < size; i++) {
                if (taker[i] == who && day <= until[i]) {
                    found = found + 1;
                }
            }
            return found;
        }
    }

    /** The rows of suspensions in the order told; who appends has looked that there is room. */
    private static final class Suspensions {
        private int size = 0;
        private final int[] trader = new int[MOST_ROWS];
        private final int[] from = new int[MOST_ROWS];
        private final boolean[] isSuspending = new boolean[MOST_ROWS];

        private void append(int whose, int day, boolean on) {
            trader[size] = whose;
            from[size] = day;
            isSuspending[size] = on;
            size = size + 1;
        }

        private boolean isOn(int who, int day) {
            boolean on = false;
            int greatest = NONE;
            for (int i = 0; i < size; i++) {
                // >= and not >: of rows with the same day the latest one told counts
                if (trader[i] == who && from[i] <= day && from[i] >= greatest) {
                    greatest = from[i];
                    on = isSuspending[i];
                }
            }
            return on;
        }
    }

    /** Reads certificates letter by letter. */
    private static final class Reader {
        private int latest = NONE;
        private int lettersRead = 0;
        private int number = 0;

        private int read(int c) {
            if (c < 'A' || c > 'Z') {
                restart();
                return -1;
            }
            int value = c - 'A';
            if (lettersRead < DIGITS) {
                // six letters stay below 26 to the 6th, which an int holds
                number = number * BASE + value;
                lettersRead = lettersRead + 1;
                return 0;
            }
            boolean isRight = number <= LAST_NUMBER && value == checkValue(number);
            if (isRight) {
                latest = number;
            }
            restart();
            return isRight ? 1 : -1;
        }

        private void restart() {
            lettersRead = 0;
            number = 0;
        }
    }
}
