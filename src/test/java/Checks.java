import java.util.ArrayList;
import java.util.List;

/** Counts the answers that are not due, prints each, and ends the program with 1 if there was one. */
final class Checks {
    private static final int MOST_TOLD = 50;

    private int checked;
    private int wrong;

    void same(String call, long got, long due) {
        checked++;
        if (got != due) {
            tell(call + " answered " + got + ", due is " + due);
        }
    }

    void same(String call, boolean got, boolean due) {
        same(call, got ? 1 : 0, due ? 1 : 0);
    }

    /** The answers are compared bit by bit, so that NaN and -0.0 are told apart too. */
    void sameDouble(String call, double got, double due) {
        checked++;
        if (Double.doubleToRawLongBits(got) != Double.doubleToRawLongBits(due)) {
            tell(call + " answered " + got + ", due is " + due);
        }
    }

    /** The call throws just this exception, none of the machine's below it, and changes nothing. */
    void refused(String call, Class<? extends RuntimeException> due, ApologyLedger ledger, Runnable run) {
        checked++;
        List<Number> before = pictureOf(ledger);
        Class<?> got = null;
        try {
            run.run();
        } catch (RuntimeException e) {
            got = e.getClass();
        }
        if (got != due) {
            tell(call + " threw " + got + ", due is " + due);
        }
        if (!before.equals(pictureOf(ledger))) {
            tell(call + " changed something");
        }
    }

    void noSuch(String call, ApologyLedger ledger, Runnable run) {
        refused(call, IndexOutOfBoundsException.class, ledger, run);
    }

    void badArgument(String call, ApologyLedger ledger, Runnable run) {
        refused(call, IllegalArgumentException.class, ledger, run);
    }

    void badState(String call, ApologyLedger ledger, Runnable run) {
        refused(call, IllegalStateException.class, ledger, run);
    }

    private void tell(String text) {
        wrong++;
        if (wrong <= MOST_TOLD) {
            System.out.println(text);
        }
    }

    void end() {
        System.out.println(checked + " checks, " + wrong + " wrong");
        if (wrong != 0) {
            System.exit(1);
        }
    }

    /** All that tells one state of a ledger from another. */
    private static List<Number> pictureOf(ApologyLedger x) {
        List<Number> picture = new ArrayList<>(List.of(x.day(), x.scorned(), x.persons(), x.slights()));
        for (int person = 0; person < x.persons(); person++) {
            picture.add(x.prideOf(person));
            picture.add(x.isInHall(person) ? 1 : 0);
        }
        for (int slight = 0; slight < x.slights(); slight++) {
            picture.add(x.offenderOf(slight));
            picture.add(x.offendedOf(slight));
            picture.add(x.weightOf(slight));
            picture.add(x.stateOf(slight));
            picture.add(x.borneFor(slight));
            picture.add(x.quietFor(slight));
        }
        return picture;
    }
}
