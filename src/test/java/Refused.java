import java.util.function.Supplier;
import java.util.function.ToDoubleFunction;

/** Calls that are refused: each throws what is due and changes nothing, as later calls show. */
final class Refused {
    interface WithOne {
        double on(Counted x, int argument);
    }

    private Refused() {
    }

    static void illegal(String what, Supplier<Counted> start, ToDoubleFunction<Counted> call) {
        Counted now = start.get();
        Counted later = start.get();
        Check.illegal(what, () -> call.applyAsDouble(now));
        Check.illegal(what, () -> call.applyAsDouble(later));
        unchanged(what, start, now, later);
    }

    static void outOfBounds(String what, Supplier<Counted> start, ToDoubleFunction<Counted> call) {
        Counted now = start.get();
        Counted later = start.get();
        Check.outOfBounds(what, () -> call.applyAsDouble(now));
        Check.outOfBounds(what, () -> call.applyAsDouble(later));
        unchanged(what, start, now, later);
    }

    static void impossible(String what, Supplier<Counted> start, ToDoubleFunction<Counted> call) {
        Counted now = start.get();
        Counted later = start.get();
        Check.impossible(what, () -> call.applyAsDouble(now));
        Check.impossible(what, () -> call.applyAsDouble(later));
        unchanged(what, start, now, later);
    }

    private static void unchanged(String what, Supplier<Counted> start, Counted now,
            Counted later) {
        String asked = State.of(now);
        Check.holds(what + " changed something: " + asked, asked.equals(State.of(start.get())));
        Counted other = start.get();
        goOn(other);
        goOn(later);
        asked = State.of(later);
        Check.holds(what + " changed a later call: " + asked, asked.equals(State.of(other)));
    }

    /** Changes that no state refuses, and the next day of record, if there is one. */
    private static void goOn(Counted x) {
        x.put(0, 7, 77, 3, 4);
        x.eraseAll(7, 58, 60);
        if (x.today() < 59) {
            x.pass(1);
            x.put(0, 7, 78, 3, 4);
        }
    }

    /** An argument just below first and just above last, and far off on both sides. */
    static void outside(String what, int first, int last, Supplier<Counted> start, WithOne call) {
        int[] wrong = {first - 1, last + 1, Integer.MIN_VALUE, Integer.MAX_VALUE};
        for (int argument : wrong) {
            illegal(what + " is " + argument, start, x -> call.on(x, argument));
        }
    }

    /** A day of record that is out of range, and one that is later than today. */
    static void records(String what, Supplier<Counted> start, WithOne call) {
        outside(what + ": the day of record", 0, 59, start, call);
        int today = start.get().today();
        for (int record : today < 59 ? new int[] {today + 1, 59} : new int[0]) {
            String told = what + ": the day of record is " + record + ", today is " + today;
            outOfBounds(told, start, x -> call.on(x, record));
        }
    }

    /** The same of full tables, early and on the last day of record. */
    static void recordsOfFull(String what, WithOne call) {
        records(what, Starts::full, call);
        records(what + " at last", Starts.then(Starts::full, x -> x.pass(57)), call);
    }

    /** Today is answered and tomorrow is out of bounds, on the first days and on the last ones. */
    static void later(String what, WithOne call) {
        outOfBounds(what + " of day 1 on day 0", Starts::empty, x -> call.on(x, 1));
        outOfBounds(what + " of day 59 on day 0", Starts::empty, x -> call.on(x, 59));
        outOfBounds(what + " of day 3 on day 2", Starts::full, x -> call.on(x, 3));
        Check.answers(what + " of day 2 on day 2", () -> call.on(Starts.full(), 2));
        Supplier<Counted> before = Starts.then(Starts::full, x -> x.pass(56));
        outOfBounds(what + " of day 59 on day 58", before, x -> call.on(x, 59));
        Check.answers(what + " of day 58 on day 58", () -> call.on(before.get(), 58));
        Supplier<Counted> last = Starts.then(Starts::full, x -> x.pass(57));
        Check.answers(what + " of day 59 on day 59", () -> call.on(last.get(), 59));
    }
}
