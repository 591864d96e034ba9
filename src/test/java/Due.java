import java.util.function.Supplier;
import java.util.function.ToLongFunction;

/** Compares answers with those that are due, and ends a test with exit code 1 if one was wrong. */
final class Due {
    private int wrong = 0;
    private int asked = 0;

    void is(String call, long got, long want) {
        asked++;
        if (got != want) {
            tell(call + " answered " + got + ", due is " + want);
        }
    }

    void yes(String call, boolean got) {
        is(call, got ? 1 : 0, 1);
    }

    void no(String call, boolean got) {
        is(call, got ? 1 : 0, 0);
    }

    /** A call that must throw just this class, and leave a freshly made object as it was. */
    void throwing(String call, Class<? extends RuntimeException> want, Supplier<TraderRights> maker,
            ToLongFunction<TraderRights> asking) {
        asked++;
        TraderRights x = maker.get();
        String before = World.seen(x);
        String got;
        try {
            got = "answered " + asking.applyAsLong(x);
        } catch (RuntimeException e) {
            got = e.getClass() == want ? null : "threw " + e.getClass().getName();
        }
        if (got != null) {
            tell(call + " " + got + ", due is " + want.getSimpleName());
        }
        keeps(call, before, World.seen(x));
    }

    /** A call that must answer so, and leave a freshly made object as it was. */
    void refused(String call, long want, Supplier<TraderRights> maker, ToLongFunction<TraderRights> asking) {
        TraderRights x = maker.get();
        String before = World.seen(x);
        is(call, asking.applyAsLong(x), want);
        keeps(call, before, World.seen(x));
    }

    private void keeps(String call, String before, String after) {
        if (!before.equals(after)) {
            tell(call + " changed something: " + before + " became " + after);
        }
    }

    private void tell(String what) {
        wrong++;
        System.out.println(what);
    }

    void end() {
        if (asked == 0) {
            tell("nothing was asked");
        }
        System.out.println(asked + " asked, " + wrong + " wrong");
        if (wrong != 0) {
            System.exit(1);
        }
    }
}
