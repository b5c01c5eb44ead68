import java.util.function.Supplier;

/** Calls with the numbers on both sides of each edge of what the document allows. */
final class Edges {
    /** A call with one number, the others being right. */
    interface Call {
        void on(ApologyLedger x, int number);
    }

    /** Far outside of everything that is allowed, and where a narrower type would wrap to a small number. */
    private static final int[] FAR = {Integer.MIN_VALUE, -256, 256, 65536, Integer.MAX_VALUE};

    private final Checks checks;

    Edges(Checks checks) {
        this.checks = checks;
    }

    /** Allowed from least to most, refused with IllegalArgumentException beyond them. */
    void numbers(String call, int least, int most, Supplier<ApologyLedger> made, Call run) {
        allowed(call, least, made, run);
        allowed(call, most, made, run);
        badArgument(call, least - 1, made, run);
        badArgument(call, most + 1, made, run);
        for (int far : FAR) {
            badArgument(call, far, made, run);
        }
    }

    /** Persons that there are and those that there are not, of ledgers with so many of them. */
    void persons(String call, Call run, int... counts) {
        for (int count : counts) {
            indices(call + " of " + count + " persons", count, () -> Ledgers.ofPersons(count), run);
        }
    }

    /** Slights that there are and those that there are not, of ledgers with so many open ones. */
    void slights(String call, Call run) {
        for (int count : new int[] {0, 2, 6, 20}) {
            indices(call + " of " + count + " slights", count, () -> Ledgers.ofSlights(count), run);
        }
    }

    private void indices(String call, int count, Supplier<ApologyLedger> made, Call run) {
        if (count > 0) {
            allowed(call, 0, made, run);
            allowed(call, count - 1, made, run);
        }
        noSuch(call, -1, made, run);
        noSuch(call, count, made, run);
        for (int far : FAR) {
            noSuch(call, far, made, run);
        }
    }

    private void allowed(String call, int number, Supplier<ApologyLedger> made, Call run) {
        checks.allowed(call + ", " + number, made, x -> run.on(x, number));
    }

    private void badArgument(String call, int number, Supplier<ApologyLedger> made, Call run) {
        checks.badArgument(call + ", " + number, made, x -> run.on(x, number));
    }

    private void noSuch(String call, int number, Supplier<ApologyLedger> made, Call run) {
        checks.noSuch(call + ", " + number, made, x -> run.on(x, number));
    }
}
