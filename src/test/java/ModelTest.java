import java.util.Random;
import java.util.function.LongSupplier;

/**
 * Long runs of calls, right ones and wrong ones, on the ledger and on the model beside each other.
 * The seeds are the runs' numbers, so that every run is the same each time. That a refused call
 * changes nothing shows in the checksums that follow.
 */
public final class ModelTest {
    private static final Checks CHECKS = new Checks();
    private static final int RUNS = 1500;
    private static final int CALLS = 512;
    private static final Class<IndexOutOfBoundsException> NO_SUCH = IndexOutOfBoundsException.class;
    private static final Class<IllegalArgumentException> BAD_ARGUMENT = IllegalArgumentException.class;
    private static final Class<IllegalStateException> BAD_STATE = IllegalStateException.class;

    private final Random random;
    private final ApologyLedger x = new ApologyLedger();
    private final LedgerModel m = new LedgerModel();
    private final int run;

    private ModelTest(int run) {
        this.run = run;
        random = new Random(run);
    }

    public static void main(String[] args) {
        for (int run = 1; run <= RUNS; run++) {
            new ModelTest(run).go();
        }
        CHECKS.end();
    }

    /** Each step is one call on the ledger. */
    private void go() {
        for (int call = 1; call <= CALLS; call++) {
            if (call % 32 == 0) {
                CHECKS.same(told("digest()"), x.digest(), m.digest());
            } else if (random.nextInt(3) > 0) {
                write(random.nextInt(24));
            } else {
                read(random.nextInt(28));
            }
        }
    }

    private void read(int kind) {
        if (kind < 10) {
            readWhole(kind);
        } else if (kind < 17) {
            readPerson(kind - 10, anyNumber(m.persons()), anyNumber(m.persons()), anyOf(60));
        } else {
            readSlight(kind - 17, anyNumber(m.slights()), anyOf(20), anyOf(60));
        }
    }

    private String told(String call) {
        return "run " + run + ": " + call;
    }

    private boolean seldom() {
        return random.nextInt(12) == 0;
    }

    /** Mostly a number below count, now and then one that is not. */
    private int anyNumber(int count) {
        if (seldom() || count == 0) {
            int[] wrong = {-1, count, count + 1, Integer.MIN_VALUE, Integer.MAX_VALUE};
            return wrong[random.nextInt(wrong.length)];
        }
        return random.nextInt(count);
    }

    /** Mostly a number from 1 to most, now and then one that is not. */
    private int anyOf(int most) {
        if (seldom()) {
            int[] wrong = {-1, 0, most + 1, Integer.MIN_VALUE, Integer.MAX_VALUE};
            return wrong[random.nextInt(wrong.length)];
        }
        return random.nextInt(3) == 0 ? 1 + random.nextInt(Math.min(most, 6)) : 1 + random.nextInt(most);
    }

    private boolean noPerson(int person) {
        return person < 0 || person >= m.persons();
    }

    private boolean noSlight(int slight) {
        return slight < 0 || slight >= m.slights();
    }

    private static boolean outside(int number, int least, int most) {
        return number < least || number > most;
    }

    private boolean closed(int slight) {
        return m.stateOf(slight) != Ledgers.OPEN;
    }

    private void refused(String call, Class<? extends RuntimeException> due, Runnable run) {
        CHECKS.thrown(told(call), due, run);
    }

    private void write(int kind) {
        if (kind < 2) {
            addPerson(anyOf(10) - 1);
        } else if (kind < 5) {
            enter(anyNumber(m.persons()));
        } else if (kind < 9) {
            slight(anyNumber(m.persons()), anyNumber(m.persons()), anyOf(20));
        } else if (kind < 13) {
            mention(anyNumber(m.slights()));
        } else if (kind < 16) {
            apologize(anyNumber(m.slights()), anyOf(20));
        } else if (kind < 18) {
            setOff(anyNumber(m.slights()), anyNumber(m.slights()));
        } else if (kind < 20) {
            setPride(anyNumber(m.persons()), anyOf(10) - 1);
        } else {
            pass(random.nextInt(8) == 0 ? anyOf(60) : anyOf(5));
        }
    }

    private void addPerson(int pride) {
        String call = "addPerson(" + pride + ")";
        if (outside(pride, 0, 9)) {
            refused(call, BAD_ARGUMENT, () -> x.addPerson(pride));
        } else if (m.persons() == 6) {
            refused(call, BAD_STATE, () -> x.addPerson(pride));
        } else {
            CHECKS.same(told(call), x.addPerson(pride), m.addPerson(pride));
        }
    }

    private void enter(int person) {
        String call = "enter(" + person + ")";
        if (noPerson(person)) {
            refused(call, NO_SUCH, () -> x.enter(person));
        } else {
            CHECKS.same(told(call), x.enter(person), m.enter(person));
        }
    }

    private void slight(int by, int against, int weight) {
        String call = "slight(" + by + ", " + against + ", " + weight + ")";
        if (noPerson(by) || noPerson(against)) {
            refused(call, NO_SUCH, () -> x.slight(by, against, weight));
        } else if (by == against || outside(weight, 1, 20)) {
            refused(call, BAD_ARGUMENT, () -> x.slight(by, against, weight));
        } else if (m.slights() == 20) {
            refused(call, BAD_STATE, () -> x.slight(by, against, weight));
        } else {
            CHECKS.same(told(call), x.slight(by, against, weight), m.slight(by, against, weight));
        }
    }

    private void mention(int slight) {
        String call = "mention(" + slight + ")";
        if (noSlight(slight)) {
            refused(call, NO_SUCH, () -> x.mention(slight));
        } else if (closed(slight)) {
            refused(call, BAD_STATE, () -> x.mention(slight));
        } else {
            CHECKS.same(told(call), x.mention(slight), m.mention(slight));
        }
    }

    private void apologize(int slight, int words) {
        String call = "apologize(" + slight + ", " + words + ")";
        if (noSlight(slight)) {
            refused(call, NO_SUCH, () -> x.apologize(slight, words));
        } else if (outside(words, 1, 20)) {
            refused(call, BAD_ARGUMENT, () -> x.apologize(slight, words));
        } else if (closed(slight)) {
            refused(call, BAD_STATE, () -> x.apologize(slight, words));
        } else {
            CHECKS.same(told(call), x.apologize(slight, words), m.apologize(slight, words));
        }
    }

    private void setOff(int one, int other) {
        String call = "setOff(" + one + ", " + other + ")";
        if (noSlight(one) || noSlight(other)) {
            refused(call, NO_SUCH, () -> x.setOff(one, other));
        } else if (!m.canSetOff(one, other)) {
            refused(call, BAD_STATE, () -> x.setOff(one, other));
        } else {
            CHECKS.same(told(call), x.setOff(one, other), m.setOff(one, other));
        }
    }

    private void setPride(int person, int pride) {
        String call = "setPride(" + person + ", " + pride + ")";
        if (noPerson(person)) {
            refused(call, NO_SUCH, () -> x.setPride(person, pride));
        } else if (outside(pride, 0, 9)) {
            refused(call, BAD_ARGUMENT, () -> x.setPride(person, pride));
        } else {
            CHECKS.same(told(call), x.setPride(person, pride), m.setPride(person, pride));
        }
    }

    private void pass(int days) {
        String call = "pass(" + days + ")";
        if (outside(days, 1, 60)) {
            refused(call, BAD_ARGUMENT, () -> x.pass(days));
        } else {
            CHECKS.same(told(call), x.pass(days), m.pass(days));
        }
    }

    private void readWhole(int kind) {
        switch (kind) {
            case 0 -> CHECKS.same(told("day()"), x.day(), m.day);
            case 1 -> CHECKS.same(told("persons()"), x.persons(), m.persons());
            case 2 -> CHECKS.same(told("slights()"), x.slights(), m.slights());
            case 3 -> CHECKS.same(told("inHall()"), x.inHall(), m.inHall());
            case 4 -> CHECKS.same(told("scorned()"), x.scorned(), m.scorned);
            case 5 -> CHECKS.same(told("sorest()"), x.sorest(), m.sorest());
            case 6 -> CHECKS.same(told("heaviest()"), x.heaviest(), m.heaviest());
            case 7 -> CHECKS.same(told("pairsToSetOff()"), x.pairsToSetOff(), m.pairsToSetOff());
            case 8 -> CHECKS.sameDouble(told("meanWeight()"), x.meanWeight(), m.meanWeight());
            default -> inState(anyOf(4) - 1);
        }
    }

    private void inState(int state) {
        String call = "inState(" + state + ")";
        if (outside(state, 0, 3)) {
            refused(call, BAD_ARGUMENT, () -> x.inState(state));
        } else {
            CHECKS.same(told(call), x.inState(state), m.inState(state));
        }
    }

    /** A call with a number of something that there is; it is refused where there is none of that number. */
    private void read(String call, boolean isThere, LongSupplier got, LongSupplier due) {
        if (isThere) {
            CHECKS.same(told(call), got.getAsLong(), due.getAsLong());
        } else {
            refused(call, NO_SUCH, got::getAsLong);
        }
    }

    /** The same with another number, which must not be outside. */
    private void read(String call, boolean isThere, boolean isOutside, LongSupplier got, LongSupplier due) {
        if (isThere && isOutside) {
            refused(call, BAD_ARGUMENT, got::getAsLong);
        } else {
            read(call, isThere, got, due);
        }
    }

    private void readPerson(int kind, int p, int other, int days) {
        boolean isThere = !noPerson(p);
        switch (kind) {
            case 0 -> read("isInHall(" + p + ")", isThere, () -> x.isInHall(p) ? 1 : 0, () -> m.isInHall(p) ? 1 : 0);
            case 1 -> read("prideOf(" + p + ")", isThere, () -> x.prideOf(p), () -> m.prideOf(p));
            case 2 -> read("borneBy(" + p + ")", isThere, () -> x.borneBy(p), () -> m.borneBy(p));
            case 3 -> read("owedBy(" + p + ")", isThere, () -> x.owedBy(p), () -> m.owedBy(p));
            case 4 -> read("worstToKeep(" + p + ")", isThere, () -> x.worstToKeep(p), () -> m.worstToKeep(p));
            case 5 -> read("balance(" + p + ", " + other + ")", isThere && !noPerson(other),
                () -> x.balance(p, other), () -> m.balance(p, other));
            default -> read("borneIn(" + p + ", " + days + ")", isThere, outside(days, 1, 60),
                () -> x.borneIn(p, days), () -> m.borneIn(p, days));
        }
    }

    private void readSlight(int kind, int s, int words, int days) {
        boolean isThere = !noSlight(s);
        switch (kind) {
            case 0 -> read("offenderOf(" + s + ")", isThere, () -> x.offenderOf(s), () -> m.offenderOf(s));
            case 1 -> read("offendedOf(" + s + ")", isThere, () -> x.offendedOf(s), () -> m.offendedOf(s));
            case 2 -> read("weightOf(" + s + ")", isThere, () -> x.weightOf(s), () -> m.weightOf(s));
            case 3 -> read("stateOf(" + s + ")", isThere, () -> x.stateOf(s), () -> m.stateOf(s));
            case 4 -> read("borneFor(" + s + ")", isThere, () -> x.borneFor(s), () -> m.borneFor(s));
            case 5 -> read("quietFor(" + s + ")", isThere, () -> x.quietFor(s), () -> m.quietFor(s));
            case 6 -> read("witnessesFor(" + s + ")", isThere, () -> x.witnessesFor(s), () -> m.witnessesFor(s));
            case 7 -> read("wordsWanted(" + s + ")", isThere, () -> x.wordsWanted(s), () -> m.wordsWanted(s));
            case 8 -> read("daysUntilForgotten(" + s + ")", isThere, () -> x.daysUntilForgotten(s), () -> m.daysUntilForgotten(s));
            case 9 -> read("wouldBeScorned(" + s + ", " + words + ")", isThere, outside(words, 1, 20),
                () -> x.wouldBeScorned(s, words) ? 1 : 0, () -> m.wouldBeScorned(s, words) ? 1 : 0);
            default -> read("weightIn(" + s + ", " + days + ")", isThere, outside(days, 1, 60),
                () -> x.weightIn(s, days), () -> m.weightIn(s, days));
        }
    }
}
