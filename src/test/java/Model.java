import java.util.ArrayList;
import java.util.Comparator;
import java.util.List;
import java.util.Set;
import java.util.TreeSet;

/**
 * The document's words once more, as slow and as plain as can be, on other structures than the class uses.
 * It answers a call that throws with a number of its own.
 */
final class Model {
    static final long STATE = -1001;
    static final long ARGUMENT = -1002;
    static final long INDEX = -1003;

    private final List<Set<Integer>> groups = new ArrayList<>();
    private final List<int[]> rights = new ArrayList<>();
    private final List<int[]> mandates = new ArrayList<>();
    private final List<int[]> suspensions = new ArrayList<>();
    private final List<int[]> pairs = new ArrayList<>();
    private final List<int[]> ends = new ArrayList<>();
    private final Set<Integer> forbidden = new TreeSet<>();
    private final Set<Integer> twos = new TreeSet<>();
    private String letters = "";
    private int certified = -1;

    long trader() {
        if (groups.size() == 12) {
            return STATE;
        }
        groups.add(new TreeSet<>());
        return groups.size() - 1;
    }

    long right(int t, int act, int place, int from, int to) {
        boolean there = place == -1 || isEighth(place);
        if (!isTrader(t) || !isEighth(act) || !there || !isDay(from) || !isDay(to) || from > to) {
            return ARGUMENT;
        }
        return kept(rights, t, act, place, from, to);
    }

    long forbid(int t, int act, boolean is) {
        if (!isTrader(t) || !isEighth(act)) {
            return 0;
        }
        boolean changed = is ? forbidden.add(t * 10 + act) : forbidden.remove(t * 10 + act);
        return changed ? 1 : 0;
    }

    long group(int t, int g) {
        if (!isTrader(t) || !isTrader(g) || t == g) {
            return ARGUMENT;
        }
        if (groups.get(t).contains(g) || groups.get(t).size() == 4 || leadsTo(g, t)) {
            return 0;
        }
        groups.get(t).add(g);
        return 1;
    }

    long deputy(int t, int d) {
        if (!isTrader(t) || !isTrader(d) || t == d) {
            return ARGUMENT;
        }
        for (int[] pair : pairs) {
            if (pair[0] == t || pair[0] == d || pair[1] == t || pair[1] == d) {
                return 0;
            }
        }
        pairs.add(new int[] {t, d});
        return 1;
    }

    long mandate(int from, int to, boolean direct, int until) {
        if (!isTrader(from) || !isTrader(to) || from == to || !isDay(until)) {
            return ARGUMENT;
        }
        return kept(mandates, from, to, direct ? 1 : 0, until);
    }

    long suspend(int t, int day, boolean on) {
        if (!isTrader(t) || !isDay(day)) {
            return ARGUMENT;
        }
        return kept(suspensions, t, day, on ? 1 : 0);
    }

    long end(int t, int day) {
        if (!isTrader(t) || !isDay(day)) {
            return 0;
        }
        for (int[] end : ends) {
            if (end[0] == t) {
                return 0;
            }
        }
        ends.add(new int[] {t, day});
        return 1;
    }

    long may(int who, int act, int place, int day) {
        if (!isTrader(who) || !isEighth(act) || !isEighth(place) || !isDay(day)) {
            return 1;
        }
        if (isEnded(who, day)) {
            return 2;
        }
        if (isSuspended(who, day)) {
            return 3;
        }
        if (hasOfItsOwn(who, act, place, day)) {
            return 0;
        }
        boolean withActZero = false;
        boolean notAlive = false;
        for (int[] way : waysTo(who, day)) {
            if (hasOfItsOwn(way[0], act, place, day)) {
                if (!isAlive(way[0], day)) {
                    notAlive = true;
                } else if (way[1] == 1 || hasOfItsOwn(who, 0, place, day)) {
                    return 0;
                } else {
                    withActZero = true;
                }
            }
        }
        return forbidden.contains(who * 10 + act) ? 4 : withActZero ? 5 : notAlive ? 6 : 7;
    }

    long two(int act, boolean needs) {
        return isEighth(act) && (needs ? twos.add(act) : twos.remove(act)) ? 1 : 0;
    }

    long done(int act, int place, int day, int first, int second) {
        if (may(first, act, place, day) != 0) {
            return 1;
        }
        if (!twos.contains(act)) {
            return 0;
        }
        if (may(second, act, place, day) != 0) {
            return 2;
        }
        boolean pair = false;
        for (int[] p : pairs) {
            pair |= p[0] == first && p[1] == second || p[0] == second && p[1] == first;
        }
        return first == second || pair ? 3 : 0;
    }

    long letter(int number, int i) {
        if (number < 0 || number > 99999999) {
            return ARGUMENT;
        }
        return i < 0 || i > 6 ? INDEX : certificate(number).charAt(i);
    }

    long check(int c) {
        if (c < 'A' || c > 'Z') {
            letters = "";
            return -1;
        }
        letters += (char) c;
        if (letters.length() < 7) {
            return 0;
        }
        long number = 0;
        for (int i = 0; i < 6; i++) {
            number = 26 * number + letters.charAt(i) - 'A';
        }
        boolean right = number <= 99999999 && certificate((int) number).equals(letters);
        letters = "";
        certified = right ? (int) number : certified;
        return right ? 1 : -1;
    }

    long certified() {
        return certified;
    }

    long look(int t, int day, int what) {
        if (!isTrader(t) || what < 0 || what > 6) {
            return INDEX;
        }
        if (!isDay(day)) {
            return ARGUMENT;
        }
        switch (what) {
            case 0: return isEnded(t, day) ? 1 : 0;
            case 1: return isSuspended(t, day) ? 1 : 0;
            case 2: return groupsOf(t, day, new TreeSet<>()).size();
            case 3: return ownActs(t, day);
            case 4: return partner(t, 0, 1);
            case 5: return partner(t, 1, 0);
            default: return mandates.stream().filter(m -> m[1] == t && m[3] >= day).count();
        }
    }

    long count(int what) {
        int bits = 0;
        for (int act : twos) {
            bits += Math.pow(2, act);
        }
        int[] all = {groups.size(), rights.size(), mandates.size(), suspensions.size(), bits, letters.length()};
        return what < 0 || what > 5 ? -1 : all[what];
    }

    private static long kept(List<int[]> rows, int... row) {
        if (rows.size() == 60) {
            return STATE;
        }
        rows.add(row);
        return rows.size();
    }

    private boolean isTrader(int t) {
        return 0 <= t && t < groups.size();
    }

    private static boolean isEighth(int n) {
        return 0 <= n && n < 8;
    }

    private static boolean isDay(int day) {
        return 0 <= day && day <= 100000;
    }

    private boolean isEnded(int t, int day) {
        return ends.stream().anyMatch(e -> e[0] == t && e[1] <= day);
    }

    private boolean isSuspended(int t, int day) {
        List<int[]> counting = new ArrayList<>(suspensions);
        counting.removeIf(s -> s[0] != t || s[1] > day);
        // the sort keeps the order of telling within a day
        counting.sort(Comparator.comparingInt(s -> s[1]));
        return !counting.isEmpty() && counting.get(counting.size() - 1)[2] == 1;
    }

    private boolean isAlive(int t, int day) {
        return !isEnded(t, day) && !isSuspended(t, day);
    }

    private boolean leadsTo(int from, int to) {
        return from == to || groups.get(from).stream().anyMatch(g -> leadsTo(g, to));
    }

    private Set<Integer> groupsOf(int t, int day, Set<Integer> found) {
        for (int g : groups.get(t)) {
            if (isAlive(g, day) && found.add(g)) {
                groupsOf(g, day, found);
            }
        }
        return found;
    }

    private boolean hasOfItsOwn(int t, int act, int place, int day) {
        if (forbidden.contains(t * 10 + act)) {
            return false;
        }
        Set<Integer> sources = groupsOf(t, day, new TreeSet<>());
        sources.add(t);
        for (int[] r : rights) {
            if (sources.contains(r[0]) && r[1] == act && (r[2] == -1 || r[2] == place) && r[3] <= day && day <= r[4]) {
                return true;
            }
        }
        return false;
    }

    private int ownActs(int t, int day) {
        Set<Integer> acts = new TreeSet<>();
        for (int act = 0; act < 8; act++) {
            for (int place = 0; place < 8; place++) {
                if (hasOfItsOwn(t, act, place, day)) {
                    acts.add(act);
                }
            }
        }
        return acts.size();
    }

    /** Those whose deputy it is or whose mandate it has, each with 1 if act 0 is not asked for. */
    private List<int[]> waysTo(int who, int day) {
        List<int[]> ways = new ArrayList<>();
        for (int[] pair : pairs) {
            if (pair[1] == who) {
                ways.add(new int[] {pair[0], 1});
            }
        }
        for (int[] m : mandates) {
            if (m[1] == who && m[3] >= day) {
                ways.add(new int[] {m[0], m[2]});
            }
        }
        return ways;
    }

    private int partner(int t, int side, int other) {
        for (int[] pair : pairs) {
            if (pair[side] == t) {
                return pair[other];
            }
        }
        return -1;
    }

    private static String certificate(int number) {
        StringBuilder text = new StringBuilder();
        int power = 11881376;
        int sum = 0;
        for (int i = 1; i <= 6; i++) {
            int value = number / power % 26;
            text.append((char) ('A' + value));
            sum += i * value;
            power /= 26;
        }
        return text.append((char) ('A' + sum % 23)).toString();
    }
}
