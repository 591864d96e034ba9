import java.util.function.Function;
import java.util.function.Predicate;
import java.util.function.Supplier;
import java.util.function.ToLongFunction;

/** Compares answers with those that are due, and ends a test with exit code 1 if one was wrong. */
final class Due {
    private int wrong = 0;
    private int asked = 0;
    private int sentences = 0;
    private String sentence = "";

    /** The test of one sentence, or part of a sentence, that stands in the document with just these words. */
    void sentence(String words, Runnable test) {
        int before = asked;
        sentence = words;
        sentences++;
        try {
            test.run();
        } catch (RuntimeException e) {
            tell("a call that must not throw threw " + e);
        }
        if (asked == before) {
            tell("nothing was asked");
        }
        sentence = "";
    }

    void is(String call, long got, long want) {
        asked++;
        if (got != want) {
            tell(call + " answered " + got + ", due is " + want);
        }
    }

    void yes(String call, boolean got) {
        is(call, got ? 1 : 0, 1);
    }

    void no(String call, boolean got) {
        is(call, got ? 1 : 0, 0);
    }

    /** A call that must throw just this class, and change nothing. */
    void throwing(String call, Class<? extends RuntimeException> want, Supplier<TraderRights> maker,
            ToLongFunction<TraderRights> asking) {
        changesNothing(call, "throws." + want.getSimpleName(), maker, asking);
    }

    /** A call that is refused: it must answer so, and change nothing. */
    void refused(String call, long want, Supplier<TraderRights> maker, ToLongFunction<TraderRights> asking) {
        changesNothing(call, Long.toString(want), maker, asking);
    }

    /** A call that only asks: it must answer so, and change nothing. */
    void asks(String call, long want, Supplier<TraderRights> maker, ToLongFunction<TraderRights> asking) {
        changesNothing(call, Long.toString(want), maker, asking);
    }

    /** A call that is refused: it must answer false, and change nothing. */
    void refused(String call, Supplier<TraderRights> maker, Predicate<TraderRights> asking) {
        changesNothing(call, "0", maker, x -> asking.test(x) ? 1 : 0);
    }

    /**
     * Behind the call an object goes on as one that was made alike and did not get it. Each probe has
     * objects of its own, as a probe may change them and an object is good for 512 calls.
     */
    private void changesNothing(String call, String want, Supplier<TraderRights> maker,
            ToLongFunction<TraderRights> asking) {
        asked++;
        for (Function<TraderRights, String> probe : Probes.ALL) {
            TraderRights called = maker.get();
            String got = Probes.told(() -> asking.applyAsLong(called));
            String after = probe.apply(called);
            String without = probe.apply(maker.get());
            if (!got.equals(want)) {
                tell(call + " answered " + got + ", due is " + want);
                return;
            }
            if (!after.equals(without)) {
                tell(call + " changed something: due is " + without + ", told is " + after);
                return;
            }
        }
    }

    private void tell(String what) {
        wrong++;
        System.out.println((sentence.isEmpty() ? "" : "\"" + sentence + "\": ") + what);
    }

    void end() {
        if (asked == 0) {
            tell("nothing was asked");
        }
        System.out.println(asked + " asked of " + sentences + " sentences, " + wrong + " wrong");
        if (wrong != 0) {
            System.exit(1);
        }
    }
}
