import java.util.function.Predicate;
import java.util.function.Supplier;
import java.util.function.ToLongFunction;

/** A call that changes nothing: its answer, and that an object that has had it answers as one that has not. */
final class Refusal {
    private Refusal() {
    }

    static void isFalse(String call, Predicate<ValueConnector> refused) {
        is(0, call, x -> refused.test(x) ? 1 : 0);
    }

    static void is(long want, String call, ToLongFunction<ValueConnector> refused) {
        is(want, call, Past::busy, refused);
    }

    static void is(long want, String call, Supplier<ValueConnector> past, ToLongFunction<ValueConnector> refused) {
        ValueConnector x = past.get();
        Check.due(call, refused.applyAsLong(x), want);
        new Twins(call, x, past.get()).answerAlike();
    }

    /** A prepare from account 0 that fails behind the test PACED: 100 drops are gone, and nothing else is changed. */
    static void takesDrops(long want, String call, ToLongFunction<ValueConnector> refused) {
        takesDrops(want, call, Past::busy, refused);
    }

    static void takesDrops(long want, String call, Supplier<ValueConnector> past,
            ToLongFunction<ValueConnector> refused) {
        ValueConnector x = past.get();
        ValueConnector untouched = past.get();
        Check.due(call, refused.applyAsLong(x), want);
        Check.due(call + ", then drops(0)", x.drops(0), untouched.drops(0) - 100);
        x.bucket(0, 200, 7);
        untouched.bucket(0, 200, 7);
        new Twins(call, x, untouched).answerAlike();
    }
}
