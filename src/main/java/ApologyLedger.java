/**
 * A ledger of apologies.
 *
 * <p>Persons and slights are held as rows of numbers, made once in the constructor, and what would
 * be is reckoned from them without a copy: so no call makes an object, but for what it throws.
 */
public final class ApologyLedger {
    private static final int MOST_PERSONS = 6;
    private static final int MOST_SLIGHTS = 20;
    private static final int MOST_PRIDE = 9;
    private static final int MOST_FIRST_WEIGHT = 20;
    private static final int MOST_WEIGHT = 99;
    private static final int MOST_WORDS = 20;
    private static final int MOST_DAYS = 60;

    private static final int WORTH_OF_A_WITNESS = 2;
    private static final int SCORNED_PART = 4;
    private static final int GROWING_DAYS = 5;
    private static final int GROWING_PART = 10;
    private static final int FORGETTING_DAYS = 30;
    private static final int KEEPING_DAYS = 20;

    private static final int OPEN = 0;
    private static final int SETTLED = 1;
    private static final int FORGOTTEN = 2;
    private static final int SET_OFF = 3;

    private static final long DIGEST_START = 2027;
    private static final long DIGEST_FACTOR = 31;
    private static final int DIGEST_DAYS_OF_PERSONS = 10;
    private static final int DIGEST_DAYS_OF_SLIGHTS = 7;

    private final int[] prides;
    private final boolean[] present;
    private int personCount;

    private final int[] offenders;
    private final int[] offendedOnes;
    private final int[] weights;
    private final int[] states;
    private final int[] daysBorne;
    private final int[] daysQuiet;
    private int slightCount;

    private int today;
    private int scornedCount;

    public ApologyLedger() {
        prides = new int[MOST_PERSONS];
        present = new boolean[MOST_PERSONS];
        offenders = new int[MOST_SLIGHTS];
        offendedOnes = new int[MOST_SLIGHTS];
        weights = new int[MOST_SLIGHTS];
        states = new int[MOST_SLIGHTS];
        daysBorne = new int[MOST_SLIGHTS];
        daysQuiet = new int[MOST_SLIGHTS];
    }

    // ---- what there is to write

    public int addPerson(int pride) throws IllegalArgumentException, IllegalStateException {
        requirePride(pride);
        if (personCount >= MOST_PERSONS) {
            throw new IllegalStateException("there is no room for another person");
        }
        int person = personCount;
        prides[person] = pride;
        personCount = person + 1;
        return person;
    }

    public boolean enter(int person) throws IndexOutOfBoundsException {
        requirePerson(person);
        present[person] = !present[person];
        return present[person];
    }

    public int slight(int offender, int offended, int weight)
            throws IndexOutOfBoundsException, IllegalArgumentException, IllegalStateException {
        requirePerson(offender);
        requirePerson(offended);
        if (offender == offended) {
            throw new IllegalArgumentException("nobody slights himself");
        }
        if (weight < 1 || weight > MOST_FIRST_WEIGHT) {
            throw new IllegalArgumentException("the weight is not 1 to 20");
        }
        if (slightCount >= MOST_SLIGHTS) {
            throw new IllegalStateException("there is no room for another slight");
        }
        int slight = slightCount;
        offenders[slight] = offender;
        offendedOnes[slight] = offended;
        weights[slight] = weight;
        slightCount = slight + 1;
        return slight;
    }

    public int mention(int slight) throws IndexOutOfBoundsException, IllegalStateException {
        requireSlight(slight);
        requireOpen(slight);
        speakOf(slight);
        return weights[slight];
    }

    public int apologize(int slight, int words)
            throws IndexOutOfBoundsException, IllegalArgumentException, IllegalStateException {
        requireSlight(slight);
        requireWords(words);
        requireOpen(slight);
        int worth = worthOf(slight, words);
        if (worth < leastWorthHeard(slight)) {
            scornedCount++;
            speakOf(slight);
        } else {
            lighten(slight, worth, SETTLED);
        }
        return weights[slight];
    }

    public int setOff(int one, int other) throws IndexOutOfBoundsException, IllegalStateException {
        requireSlight(one);
        requireSlight(other);
        requireOpen(one);
        requireOpen(other);
        if (!areAgainstEachOther(one, other)) {
            throw new IllegalStateException("the slights are not of two persons against each other");
        }
        int less = Math.min(weights[one], weights[other]);
        lighten(one, less, SET_OFF);
        lighten(other, less, SET_OFF);
        return less;
    }

    public int setPride(int person, int pride) throws IndexOutOfBoundsException, IllegalArgumentException {
        requirePerson(person);
        requirePride(pride);
        int before = prides[person];
        prides[person] = pride;
        return before;
    }

    public int pass(int days) throws IllegalArgumentException {
        requireDays(days);
        int forgotten = 0;
        for (int gone = 0; gone < days; gone++) {
            forgotten += passOneDay();
        }
        return forgotten;
    }

    // ---- persons

    public int day() {
        return today;
    }

    public int persons() {
        return personCount;
    }

    public int slights() {
        return slightCount;
    }

    public int inHall() {
        int count = 0;
        for (int person = 0; person < personCount; person++) {
            if (present[person]) {
                count++;
            }
        }
        return count;
    }

    public int scorned() {
        return scornedCount;
    }

    public boolean isInHall(int person) throws IndexOutOfBoundsException {
        requirePerson(person);
        return present[person];
    }

    public int prideOf(int person) throws IndexOutOfBoundsException {
        requirePerson(person);
        return prides[person];
    }

    public int borneBy(int person) throws IndexOutOfBoundsException {
        requirePerson(person);
        int sum = 0;
        for (int slight = 0; slight < slightCount; slight++) {
            if (states[slight] == OPEN && offendedOnes[slight] == person) {
                sum += weights[slight];
            }
        }
        return sum;
    }

    public int owedBy(int person) throws IndexOutOfBoundsException {
        requirePerson(person);
        int sum = 0;
        for (int slight = 0; slight < slightCount; slight++) {
            if (states[slight] == OPEN && offenders[slight] == person) {
                sum += weights[slight];
            }
        }
        return sum;
    }

    public int balance(int one, int other) throws IndexOutOfBoundsException {
        requirePerson(one);
        requirePerson(other);
        return weightBetween(one, other) - weightBetween(other, one);
    }

    public int sorest() {
        int sorest = -1;
        int most = -1;
        for (int person = 0; person < personCount; person++) {
            int borne = borneBy(person);
            if (borne > most) {
                sorest = person;
                most = borne;
            }
        }
        return sorest;
    }

    // ---- slights

    public int offenderOf(int slight) throws IndexOutOfBoundsException {
        requireSlight(slight);
        return offenders[slight];
    }

    public int offendedOf(int slight) throws IndexOutOfBoundsException {
        requireSlight(slight);
        return offendedOnes[slight];
    }

    public int weightOf(int slight) throws IndexOutOfBoundsException {
        requireSlight(slight);
        return weights[slight];
    }

    public int stateOf(int slight) throws IndexOutOfBoundsException {
        requireSlight(slight);
        return states[slight];
    }

    public int borneFor(int slight) throws IndexOutOfBoundsException {
        requireSlight(slight);
        return daysBorne[slight];
    }

    public int quietFor(int slight) throws IndexOutOfBoundsException {
        requireSlight(slight);
        return daysQuiet[slight];
    }

    public int witnessesFor(int slight) throws IndexOutOfBoundsException {
        requireSlight(slight);
        int witnesses = 0;
        for (int person = 0; person < personCount; person++) {
            if (present[person] && person != offenders[slight] && person != offendedOnes[slight]) {
                witnesses++;
            }
        }
        return witnesses;
    }

    public int inState(int state) throws IllegalArgumentException {
        if (state < OPEN || state > SET_OFF) {
            throw new IllegalArgumentException("the state is not 0 to 3");
        }
        int count = 0;
        for (int slight = 0; slight < slightCount; slight++) {
            if (states[slight] == state) {
                count++;
            }
        }
        return count;
    }

    public int heaviest() {
        int heaviest = -1;
        int most = -1;
        for (int slight = 0; slight < slightCount; slight++) {
            if (states[slight] == OPEN && weights[slight] > most) {
                heaviest = slight;
                most = weights[slight];
            }
        }
        return heaviest;
    }

    public int pairsToSetOff() {
        int pairs = 0;
        for (int one = 0; one < slightCount; one++) {
            for (int other = one + 1; other < slightCount; other++) {
                if (states[one] == OPEN && states[other] == OPEN && areAgainstEachOther(one, other)) {
                    pairs++;
                }
            }
        }
        return pairs;
    }

    // ---- what would be

    public int wordsWanted(int slight) throws IndexOutOfBoundsException {
        requireSlight(slight);
        if (states[slight] != OPEN) {
            return -1;
        }
        int worthWanted = Math.max(weights[slight], leastWorthHeard(slight));
        int words = Math.max(1, worthWanted - worthOf(slight, 0));
        return words > MOST_WORDS ? -1 : words;
    }

    public boolean wouldBeScorned(int slight, int words)
            throws IndexOutOfBoundsException, IllegalArgumentException {
        requireSlight(slight);
        requireWords(words);
        return states[slight] == OPEN && worthOf(slight, words) < leastWorthHeard(slight);
    }

    public int weightIn(int slight, int days) throws IndexOutOfBoundsException, IllegalArgumentException {
        requireSlight(slight);
        requireDays(days);
        if (states[slight] != OPEN || daysQuiet[slight] + days >= FORGETTING_DAYS) {
            return 0;
        }
        int weight = weights[slight];
        for (int ahead = 1; ahead <= days; ahead++) {
            weight = weightWhenBorne(weight, daysBorne[slight] + ahead);
        }
        return weight;
    }

    public int daysUntilForgotten(int slight) throws IndexOutOfBoundsException {
        requireSlight(slight);
        return states[slight] == OPEN ? FORGETTING_DAYS - daysQuiet[slight] : -1;
    }

    public int borneIn(int person, int days) throws IndexOutOfBoundsException, IllegalArgumentException {
        requirePerson(person);
        requireDays(days);
        int sum = 0;
        for (int slight = 0; slight < slightCount; slight++) {
            if (offendedOnes[slight] == person) {
                sum += weightIn(slight, days);
            }
        }
        return sum;
    }

    public int worstToKeep(int person) throws IndexOutOfBoundsException {
        requirePerson(person);
        int worst = -1;
        int most = 0;
        for (int slight = 0; slight < slightCount; slight++) {
            if (states[slight] == OPEN && offenders[slight] == person) {
                // Less than 0 where it is forgotten by then: that counts too, if nothing else is there.
                int heavier = weightIn(slight, KEEPING_DAYS) - weights[slight];
                if (worst == -1 || heavier > most) {
                    worst = slight;
                    most = heavier;
                }
            }
        }
        return worst;
    }

    public double meanWeight() {
        int sum = 0;
        int count = 0;
        for (int slight = 0; slight < slightCount; slight++) {
            if (states[slight] == OPEN) {
                sum += weights[slight];
                count++;
            }
        }
        return count == 0 ? 0.0 : (double) sum / count;
    }

    public long digest() {
        long d = digestOfTheWhole(DIGEST_START);
        for (int person = 0; person < personCount; person++) {
            d = digestOfPerson(d, person);
        }
        for (int slight = 0; slight < slightCount; slight++) {
            d = digestOfSlight(d, slight);
        }
        return d;
    }

    // ---- what is refused

    private void requirePerson(int person) {
        if (person < 0 || person >= personCount) {
            throw new IndexOutOfBoundsException("there is no such person");
        }
    }

    private void requireSlight(int slight) {
        if (slight < 0 || slight >= slightCount) {
            throw new IndexOutOfBoundsException("there is no such slight");
        }
    }

    private void requireOpen(int slight) {
        if (stateOf(slight) != OPEN) {
            throw new IllegalStateException("the slight is not open");
        }
    }

    private static void requirePride(int pride) {
        if (pride < 0 || pride > MOST_PRIDE) {
            throw new IllegalArgumentException("the pride is not 0 to 9");
        }
    }

    private static void requireWords(int words) {
        if (words < 1 || words > MOST_WORDS) {
            throw new IllegalArgumentException("the words are not 1 to 20");
        }
    }

    private static void requireDays(int days) {
        if (days < 1 || days > MOST_DAYS) {
            throw new IllegalArgumentException("the days are not 1 to 60");
        }
    }

    // ---- what a slight goes through

    private void speakOf(int slight) {
        requireSlight(slight);
        weights[slight] = Math.min(weights[slight] + 1, MOST_WEIGHT);
        daysQuiet[slight] = 0;
    }

    private void lighten(int slight, int less, int stateAtNothing) {
        requireSlight(slight);
        int weight = weights[slight] - less;
        if (weight > 0) {
            weights[slight] = weight;
        } else {
            close(slight, stateAtNothing);
        }
    }

    private void close(int slight, int state) {
        requireSlight(slight);
        states[slight] = state;
        weights[slight] = 0;
    }

    private int passOneDay() {
        int forgotten = 0;
        for (int slight = 0; slight < slightCount; slight++) {
            if (states[slight] == OPEN) {
                bearOneDay(slight);
                if (states[slight] == FORGOTTEN) {
                    forgotten++;
                }
            }
        }
        today++;
        return forgotten;
    }

    private void bearOneDay(int slight) {
        requireSlight(slight);
        daysBorne[slight]++;
        daysQuiet[slight]++;
        weights[slight] = weightWhenBorne(weights[slight], daysBorne[slight]);
        if (daysQuiet[slight] >= FORGETTING_DAYS) {
            close(slight, FORGOTTEN);
        }
    }

    private static int weightWhenBorne(int weight, int days) {
        if (days % GROWING_DAYS != 0) {
            return weight;
        }
        return Math.min(weight + Math.max(1, weight / GROWING_PART), MOST_WEIGHT);
    }

    // ---- what an apology is worth

    private int worthOf(int slight, int words) {
        return words + WORTH_OF_A_WITNESS * witnessesFor(slight);
    }

    private int leastWorthHeard(int slight) {
        return Math.max(prideOf(offendedOf(slight)), weightOf(slight) / SCORNED_PART);
    }

    private boolean areAgainstEachOther(int one, int other) {
        return offenderOf(one) == offendedOf(other) && offenderOf(other) == offendedOf(one);
    }

    private int weightBetween(int offender, int offended) {
        int sum = 0;
        for (int slight = 0; slight < slightCount; slight++) {
            if (states[slight] == OPEN && offenders[slight] == offender && offendedOnes[slight] == offended) {
                sum += weights[slight];
            }
        }
        return sum;
    }

    // ---- the parts of the digest

    private static long digestWith(long d, long x) {
        return d * DIGEST_FACTOR + x;
    }

    private long digestOfTheWhole(long start) {
        long d = digestWith(start, day());
        d = digestWith(d, persons());
        d = digestWith(d, slights());
        d = digestWith(d, inHall());
        d = digestWith(d, scorned());
        d = digestWith(d, sorest());
        for (int state = OPEN; state <= SET_OFF; state++) {
            d = digestWith(d, inState(state));
        }
        d = digestWith(d, heaviest());
        return digestWith(d, pairsToSetOff());
    }

    private long digestOfPerson(long before, int person) {
        long d = digestWith(before, isInHall(person) ? 1 : 0);
        d = digestWith(d, prideOf(person));
        d = digestWith(d, borneBy(person));
        d = digestWith(d, owedBy(person));
        d = digestWith(d, borneIn(person, DIGEST_DAYS_OF_PERSONS));
        return digestWith(d, worstToKeep(person));
    }

    private long digestOfSlight(long before, int slight) {
        long d = digestWith(before, weightOf(slight));
        d = digestWith(d, stateOf(slight));
        d = digestWith(d, borneFor(slight));
        d = digestWith(d, quietFor(slight));
        d = digestWith(d, witnessesFor(slight));
        d = digestWith(d, wordsWanted(slight));
        d = digestWith(d, weightIn(slight, DIGEST_DAYS_OF_SLIGHTS));
        return digestWith(d, daysUntilForgotten(slight));
    }
}
