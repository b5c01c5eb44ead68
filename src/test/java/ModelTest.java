import java.util.Random;

/**
 * Long runs of calls, right ones and wrong ones, on the ledger and on the model beside each other.
 * The seeds are the runs' numbers, so that every run is the same each time.
 */
public final class ModelTest {
    private static final Checks CHECKS = new Checks();
    private static final int RUNS = 120;
    private static final int CALLS = 512;
    private static final Class<IndexOutOfBoundsException> NO_SUCH = IndexOutOfBoundsException.class;
    private static final Class<IllegalArgumentException> BAD_ARGUMENT = IllegalArgumentException.class;
    private static final Class<IllegalStateException> BAD_STATE = IllegalStateException.class;

    private final Random random;
    private final ApologyLedger x = new ApologyLedger();
    private final LedgerModel m = new LedgerModel();
    private final int run;

    private ModelTest(int run) {
        this.run = run;
        random = new Random(run);
    }

    public static void main(String[] args) {
        for (int run = 1; run <= RUNS; run++) {
            new ModelTest(run).go();
        }
        CHECKS.end();
    }

    private void go() {
        for (int call = 0; call < CALLS; call++) {
            write(random.nextInt(24));
            if (call % 16 == 15) {
                CHECKS.same(told("digest()"), x.digest(), m.digest());
            }
            readWhole();
            readPerson(anyNumber(m.persons()), anyNumber(m.persons()), anyOf(60));
            readSlight(anyNumber(m.slights()), anyOf(20), anyOf(60));
        }
    }

    private String told(String call) {
        return "run " + run + ": " + call;
    }

    private boolean seldom() {
        return random.nextInt(12) == 0;
    }

    /** Mostly a number below count, now and then one that is not. */
    private int anyNumber(int count) {
        if (seldom() || count == 0) {
            int[] wrong = {-1, count, count + 1, Integer.MIN_VALUE, Integer.MAX_VALUE};
            return wrong[random.nextInt(wrong.length)];
        }
        return random.nextInt(count);
    }

    /** Mostly a number from 1 to most, now and then one that is not. */
    private int anyOf(int most) {
        if (seldom()) {
            int[] wrong = {-1, 0, most + 1, Integer.MIN_VALUE, Integer.MAX_VALUE};
            return wrong[random.nextInt(wrong.length)];
        }
        return random.nextInt(3) == 0 ? 1 + random.nextInt(Math.min(most, 6)) : 1 + random.nextInt(most);
    }

    private boolean noPerson(int person) {
        return person < 0 || person >= m.persons();
    }

    private boolean noSlight(int slight) {
        return slight < 0 || slight >= m.slights();
    }

    private static boolean outside(int number, int least, int most) {
        return number < least || number > most;
    }

    private boolean closed(int slight) {
        return m.stateOf(slight) != Ledgers.OPEN;
    }

    private void refused(String call, Class<? extends RuntimeException> due, Runnable run) {
        CHECKS.refused(told(call), due, x, run);
    }

    private void write(int kind) {
        if (kind < 2) {
            addPerson(anyOf(10) - 1);
        } else if (kind < 5) {
            enter(anyNumber(m.persons()));
        } else if (kind < 9) {
            slight(anyNumber(m.persons()), anyNumber(m.persons()), anyOf(20));
        } else if (kind < 13) {
            mention(anyNumber(m.slights()));
        } else if (kind < 16) {
            apologize(anyNumber(m.slights()), anyOf(20));
        } else if (kind < 18) {
            setOff(anyNumber(m.slights()), anyNumber(m.slights()));
        } else if (kind < 20) {
            setPride(anyNumber(m.persons()), anyOf(10) - 1);
        } else {
            pass(random.nextInt(8) == 0 ? anyOf(60) : anyOf(5));
        }
    }

    private void addPerson(int pride) {
        String call = "addPerson(" + pride + ")";
        if (outside(pride, 0, 9)) {
            refused(call, BAD_ARGUMENT, () -> x.addPerson(pride));
        } else if (m.persons() == 6) {
            refused(call, BAD_STATE, () -> x.addPerson(pride));
        } else {
            CHECKS.same(told(call), x.addPerson(pride), m.addPerson(pride));
        }
    }

    private void enter(int person) {
        String call = "enter(" + person + ")";
        if (noPerson(person)) {
            refused(call, NO_SUCH, () -> x.enter(person));
        } else {
            CHECKS.same(told(call), x.enter(person), m.enter(person));
        }
    }

    private void slight(int by, int against, int weight) {
        String call = "slight(" + by + ", " + against + ", " + weight + ")";
        if (noPerson(by) || noPerson(against)) {
            refused(call, NO_SUCH, () -> x.slight(by, against, weight));
        } else if (by == against || outside(weight, 1, 20)) {
            refused(call, BAD_ARGUMENT, () -> x.slight(by, against, weight));
        } else if (m.slights() == 20) {
            refused(call, BAD_STATE, () -> x.slight(by, against, weight));
        } else {
            CHECKS.same(told(call), x.slight(by, against, weight), m.slight(by, against, weight));
        }
    }

    private void mention(int slight) {
        String call = "mention(" + slight + ")";
        if (noSlight(slight)) {
            refused(call, NO_SUCH, () -> x.mention(slight));
        } else if (closed(slight)) {
            refused(call, BAD_STATE, () -> x.mention(slight));
        } else {
            CHECKS.same(told(call), x.mention(slight), m.mention(slight));
        }
    }

    private void apologize(int slight, int words) {
        String call = "apologize(" + slight + ", " + words + ")";
        if (noSlight(slight)) {
            refused(call, NO_SUCH, () -> x.apologize(slight, words));
        } else if (outside(words, 1, 20)) {
            refused(call, BAD_ARGUMENT, () -> x.apologize(slight, words));
        } else if (closed(slight)) {
            refused(call, BAD_STATE, () -> x.apologize(slight, words));
        } else {
            CHECKS.same(told(call), x.apologize(slight, words), m.apologize(slight, words));
        }
    }

    private void setOff(int one, int other) {
        String call = "setOff(" + one + ", " + other + ")";
        if (noSlight(one) || noSlight(other)) {
            refused(call, NO_SUCH, () -> x.setOff(one, other));
        } else if (!m.canSetOff(one, other)) {
            refused(call, BAD_STATE, () -> x.setOff(one, other));
        } else {
            CHECKS.same(told(call), x.setOff(one, other), m.setOff(one, other));
        }
    }

    private void setPride(int person, int pride) {
        String call = "setPride(" + person + ", " + pride + ")";
        if (noPerson(person)) {
            refused(call, NO_SUCH, () -> x.setPride(person, pride));
        } else if (outside(pride, 0, 9)) {
            refused(call, BAD_ARGUMENT, () -> x.setPride(person, pride));
        } else {
            CHECKS.same(told(call), x.setPride(person, pride), m.setPride(person, pride));
        }
    }

    private void pass(int days) {
        String call = "pass(" + days + ")";
        if (outside(days, 1, 60)) {
            refused(call, BAD_ARGUMENT, () -> x.pass(days));
        } else {
            CHECKS.same(told(call), x.pass(days), m.pass(days));
        }
    }

    private void readWhole() {
        CHECKS.same(told("day()"), x.day(), m.day);
        CHECKS.same(told("persons()"), x.persons(), m.persons());
        CHECKS.same(told("slights()"), x.slights(), m.slights());
        CHECKS.same(told("inHall()"), x.inHall(), m.inHall());
        CHECKS.same(told("scorned()"), x.scorned(), m.scorned);
        CHECKS.same(told("sorest()"), x.sorest(), m.sorest());
        CHECKS.same(told("heaviest()"), x.heaviest(), m.heaviest());
        CHECKS.same(told("pairsToSetOff()"), x.pairsToSetOff(), m.pairsToSetOff());
        CHECKS.sameDouble(told("meanWeight()"), x.meanWeight(), m.meanWeight());
        for (int state = 0; state <= 3; state++) {
            CHECKS.same(told("inState(" + state + ")"), x.inState(state), m.inState(state));
        }
    }

    private void readPerson(int person, int other, int days) {
        if (noPerson(person)) {
            refused("borneIn(" + person + ", " + days + ")", NO_SUCH, () -> x.borneIn(person, days));
            refused("worstToKeep(" + person + ")", NO_SUCH, () -> x.worstToKeep(person));
            return;
        }
        CHECKS.same(told("isInHall(" + person + ")"), x.isInHall(person), m.isInHall(person));
        CHECKS.same(told("prideOf(" + person + ")"), x.prideOf(person), m.prideOf(person));
        CHECKS.same(told("borneBy(" + person + ")"), x.borneBy(person), m.borneBy(person));
        CHECKS.same(told("owedBy(" + person + ")"), x.owedBy(person), m.owedBy(person));
        CHECKS.same(told("worstToKeep(" + person + ")"), x.worstToKeep(person), m.worstToKeep(person));
        String balance = "balance(" + person + ", " + other + ")";
        if (noPerson(other)) {
            refused(balance, NO_SUCH, () -> x.balance(person, other));
        } else {
            CHECKS.same(told(balance), x.balance(person, other), m.balance(person, other));
        }
        String borneIn = "borneIn(" + person + ", " + days + ")";
        if (outside(days, 1, 60)) {
            refused(borneIn, BAD_ARGUMENT, () -> x.borneIn(person, days));
        } else {
            CHECKS.same(told(borneIn), x.borneIn(person, days), m.borneIn(person, days));
        }
    }

    private void readSlight(int slight, int words, int days) {
        if (noSlight(slight)) {
            refused("weightIn(" + slight + ", " + days + ")", NO_SUCH, () -> x.weightIn(slight, days));
            refused("wordsWanted(" + slight + ")", NO_SUCH, () -> x.wordsWanted(slight));
            return;
        }
        String of = "(" + slight + ")";
        CHECKS.same(told("offenderOf" + of), x.offenderOf(slight), m.offenderOf(slight));
        CHECKS.same(told("offendedOf" + of), x.offendedOf(slight), m.offendedOf(slight));
        CHECKS.same(told("weightOf" + of), x.weightOf(slight), m.weightOf(slight));
        CHECKS.same(told("stateOf" + of), x.stateOf(slight), m.stateOf(slight));
        CHECKS.same(told("borneFor" + of), x.borneFor(slight), m.borneFor(slight));
        CHECKS.same(told("quietFor" + of), x.quietFor(slight), m.quietFor(slight));
        CHECKS.same(told("witnessesFor" + of), x.witnessesFor(slight), m.witnessesFor(slight));
        CHECKS.same(told("wordsWanted" + of), x.wordsWanted(slight), m.wordsWanted(slight));
        CHECKS.same(told("daysUntilForgotten" + of), x.daysUntilForgotten(slight), m.daysUntilForgotten(slight));
        String scorned = "wouldBeScorned(" + slight + ", " + words + ")";
        if (outside(words, 1, 20)) {
            refused(scorned, BAD_ARGUMENT, () -> x.wouldBeScorned(slight, words));
        } else {
            CHECKS.same(told(scorned), x.wouldBeScorned(slight, words), m.wouldBeScorned(slight, words));
        }
        String weightIn = "weightIn(" + slight + ", " + days + ")";
        if (outside(days, 1, 60)) {
            refused(weightIn, BAD_ARGUMENT, () -> x.weightIn(slight, days));
        } else {
            CHECKS.same(told(weightIn), x.weightIn(slight, days), m.weightIn(slight, days));
        }
    }
}
