import java.util.ArrayList;
import java.util.List;
import java.util.function.Consumer;
import java.util.function.Supplier;

/** Counts the answers that are not due, prints each, and ends the program with 1 if there was one. */
final class Checks {
    private static final int MOST_TOLD = 50;

    private int checked;
    private int wrong;
    private String sentence = "";
    private int checkedBeforeSentence = -1;

    /**
     * What the checks from here on are about: a place in the document, and its own words there. A
     * sentence that no check follows is told as a fault, so that none is quoted for nothing.
     */
    void sentence(String place, String words) {
        endSentence();
        sentence = place + ", \"" + words + "\": ";
        checkedBeforeSentence = checked;
    }

    private void endSentence() {
        if (checked == checkedBeforeSentence) {
            tell("nothing is checked");
        }
    }

    void same(String call, long got, long due) {
        checked++;
        if (got != due) {
            tell(call + " answered " + got + ", due is " + due);
        }
    }

    void same(String call, boolean got, boolean due) {
        same(call, got ? 1 : 0, due ? 1 : 0);
    }

    /** The answers are compared bit by bit, so that NaN and -0.0 are told apart too. */
    void sameDouble(String call, double got, double due) {
        checked++;
        if (Double.doubleToRawLongBits(got) != Double.doubleToRawLongBits(due)) {
            tell(call + " answered " + got + ", due is " + due);
        }
    }

    /** The call throws just this exception, or nothing for null: none of the machine's below it. */
    void thrown(String call, Class<? extends RuntimeException> due, Runnable run) {
        checked++;
        Class<?> got = null;
        try {
            run.run();
        } catch (RuntimeException e) {
            got = e.getClass();
        }
        if (got != due) {
            tell(call + " threw " + got + ", due is " + due);
        }
    }

    void allowed(String call, Supplier<ApologyLedger> made, Consumer<ApologyLedger> run) {
        ApologyLedger x = made.get();
        thrown(call, null, () -> run.accept(x));
    }

    /** The call throws nothing and changes nothing. */
    void unchanged(String call, Supplier<ApologyLedger> made, Consumer<ApologyLedger> run) {
        throwsAndChangesNothing(call, null, made, run);
    }

    void noSuch(String call, Supplier<ApologyLedger> made, Consumer<ApologyLedger> run) {
        throwsAndChangesNothing(call, IndexOutOfBoundsException.class, made, run);
    }

    void badArgument(String call, Supplier<ApologyLedger> made, Consumer<ApologyLedger> run) {
        throwsAndChangesNothing(call, IllegalArgumentException.class, made, run);
    }

    void badState(String call, Supplier<ApologyLedger> made, Consumer<ApologyLedger> run) {
        throwsAndChangesNothing(call, IllegalStateException.class, made, run);
    }

    /** On a ledger of its own, since the pictures are calls too, and an object is used for 512 at most. */
    private void throwsAndChangesNothing(String call, Class<? extends RuntimeException> due,
            Supplier<ApologyLedger> made, Consumer<ApologyLedger> run) {
        ApologyLedger x = made.get();
        List<Number> before = pictureOf(x);
        thrown(call, due, () -> run.accept(x));
        checked++;
        if (!before.equals(pictureOf(x))) {
            tell(call + " changed something");
        }
    }

    private void tell(String text) {
        wrong++;
        if (wrong <= MOST_TOLD) {
            System.out.println(sentence + text);
        }
    }

    void end() {
        endSentence();
        System.out.println(checked + " checks, " + wrong + " wrong");
        if (wrong != 0) {
            System.exit(1);
        }
    }

    /** All that tells one state of a ledger from another. */
    private static List<Number> pictureOf(ApologyLedger x) {
        List<Number> picture = new ArrayList<>(List.of(x.day(), x.scorned(), x.digest()));
        int persons = x.persons();
        picture.add(persons);
        for (int person = 0; person < persons; person++) {
            picture.add(x.prideOf(person));
            picture.add(x.isInHall(person) ? 1 : 0);
        }
        int slights = x.slights();
        picture.add(slights);
        for (int slight = 0; slight < slights; slight++) {
            picture.add(x.offenderOf(slight));
            picture.add(x.offendedOf(slight));
            picture.add(x.weightOf(slight));
            picture.add(x.stateOf(slight));
            picture.add(x.borneFor(slight));
            picture.add(x.quietFor(slight));
        }
        return picture;
    }
}
