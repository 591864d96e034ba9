import java.util.Random;
import java.util.function.LongSupplier;

/** Long runs of calls, the same ones each time, each answer against the model's. */
public final class RandomRunsTest {
    private static final int RUNS = 600;
    private static final int CALLS = 512;
    private static final Due due = new Due();

    private final Random random;
    private final TraderRights x = new TraderRights();
    private final Model model = new Model();
    private final int run;
    private final int days;
    private final int acts;
    /** How often, of 100 calls, one changes the state: runs with few changes stay sparse. */
    private final int changing;
    private String certificate = "";

    private RandomRunsTest(int run) {
        this.run = run;
        random = new Random(run);
        days = 2 + random.nextInt(12);
        acts = 1 + random.nextInt(8);
        changing = 5 + random.nextInt(70);
    }

    public static void main(String[] args) {
        for (int run = 1; run <= RUNS; run++) {
            new RandomRunsTest(run).go();
        }
        due.end();
    }

    private void go() {
        int first = 2 + random.nextInt(11);
        for (int call = 0; call < CALLS; call++) {
            if (call < first) {
                same("trader()", () -> x.trader(), model.trader());
            } else if (random.nextInt(100) < changing) {
                change();
            } else {
                ask();
            }
        }
    }

    private void change() {
        int a = trader();
        int b = trader();
        int act = wild(acts, 8);
        int place = random.nextInt(3) == 0 ? TraderRights.NONE : wild(4, 8);
        int from = day();
        int to = random.nextInt(10) == 0 ? day() : Math.max(from, day());
        boolean on = random.nextBoolean();
        switch (random.nextInt(21)) {
            case 0: same("trader()", () -> x.trader(), model.trader()); break;
            case 1: case 2: case 3: case 4:
                same(told("right", a, act, place, from, to), () -> x.right(a, act, place, from, to),
                        model.right(a, act, place, from, to));
                break;
            case 5: same(told("forbid", a, act, on ? 1 : 0), () -> x.forbid(a, act, on) ? 1 : 0,
                    model.forbid(a, act, on)); break;
            case 6: case 7: same(told("group", a, b), () -> x.group(a, b), model.group(a, b)); break;
            case 8: same(told("deputy", a, b), () -> x.deputy(a, b), model.deputy(a, b)); break;
            case 9: case 10: case 11:
                same(told("mandate", a, b, on ? 1 : 0, from), () -> x.mandate(a, b, on, from),
                        model.mandate(a, b, on, from));
                break;
            case 12: case 13:
                same(told("suspend", a, from, on ? 1 : 0), () -> x.suspend(a, from, on), model.suspend(a, from, on));
                break;
            case 14: endSeldom(a, from); break;
            case 15: same(told("two", act, on ? 1 : 0), () -> x.two(act, on) ? 1 : 0, model.two(act, on)); break;
            default: readLetter();
        }
    }

    private void endSeldom(int a, int from) {
        if (random.nextInt(3) == 0) {
            same(told("end", a, from), () -> x.end(a, from) ? 1 : 0, model.end(a, from));
        }
    }

    private void readLetter() {
        if (certificate.isEmpty()) {
            StringBuilder next = new StringBuilder();
            int number = random.nextInt(100000000);
            for (int i = 0; i < 7; i++) {
                next.append((char) model.letter(number, i));
            }
            certificate = next.toString();
        }
        int c = random.nextInt(25) == 0 ? wild(128, 128) : certificate.charAt(0);
        certificate = certificate.substring(1);
        same(told("check", c), () -> x.check(c), model.check(c));
    }

    private void ask() {
        int a = trader();
        int b = trader();
        int act = wild(acts, 8);
        int place = wild(4, 8);
        int day = day();
        int what = wild(7, 8);
        int number = wild(100000000, 100000001);
        switch (random.nextInt(10)) {
            case 0: same(told("done", act, place, day, a, b), () -> x.done(act, place, day, a, b),
                    model.done(act, place, day, a, b)); break;
            case 1: same(told("letter", number, what), () -> x.letter(number, what), model.letter(number, what)); break;
            case 2: same("certified()", () -> x.certified(), model.certified()); break;
            case 3: same(told("count", what), () -> x.count(what), model.count(what)); break;
            case 4: case 5: same(told("look", a, day, what), () -> x.look(a, day, what), model.look(a, day, what)); break;
            default: same(told("may", a, act, place, day), () -> x.may(a, act, place, day),
                    model.may(a, act, place, day));
        }
    }

    private int trader() {
        return wild(Math.max(1, (int) model.count(0)), 12);
    }

    private int day() {
        return random.nextInt(60) == 0 ? 99999 + random.nextInt(4) : wild(days, 14);
    }

    /** Mostly a number below the usual bound, now and then one round the outer bound or far off. */
    private int wild(int usual, int outer) {
        switch (random.nextInt(80)) {
            case 0: return outer + random.nextInt(2);
            case 1: return -1 - random.nextInt(2);
            case 2: return random.nextInt();
            default: return random.nextInt(usual);
        }
    }

    private static String told(String name, int... arguments) {
        StringBuilder text = new StringBuilder(name).append('(');
        for (int i = 0; i < arguments.length; i++) {
            text.append(i == 0 ? "" : ", ").append(arguments[i]);
        }
        return text.append(')').toString();
    }

    private void same(String call, LongSupplier asking, long want) {
        long got;
        try {
            got = asking.getAsLong();
        } catch (RuntimeException e) {
            got = e.getClass() == IllegalStateException.class ? Model.STATE
                    : e.getClass() == IllegalArgumentException.class ? Model.ARGUMENT
                    : e.getClass() == IndexOutOfBoundsException.class ? Model.INDEX : -1004;
        }
        due.is("run " + run + ": " + call, got, want);
    }
}
