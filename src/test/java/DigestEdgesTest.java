import java.math.BigInteger;
import java.util.ArrayList;
import java.util.List;

/** Promise 38 where the checksum wraps around, and where the numbers in it are at their edges. */
public final class DigestEdgesTest {
    private static final Checks CHECKS = new Checks();

    /** Reckoned outside of Java, so that no fault here can hide one there. */
    private static final long NEW_ONE = -8274271674228128757L;
    private static final long ONE_PERSON = -7826141452171507755L;
    private static final long ONE_SLIGHT = -7414042835461229276L;

    private static final BigInteger LEAST = BigInteger.valueOf(Long.MIN_VALUE);
    private static final BigInteger MOST = BigInteger.valueOf(Long.MAX_VALUE);

    private DigestEdgesTest() {
    }

    public static void main(String[] args) {
        theLeastOneWraps();
        wrapsAroundOnce();
        wrapsAroundMany();
        wrapsFromMostToLeast();
        soCountsOne();
        countsWithMinusOne();
        emptyAndFull();
        CHECKS.end();
    }

    /** The checksum as it would be if nothing wrapped around. */
    private static BigInteger exact(List<Integer> numbers) {
        BigInteger d = BigInteger.valueOf(2027);
        for (int x : numbers) {
            d = d.multiply(BigInteger.valueOf(31)).add(BigInteger.valueOf(x));
        }
        return d;
    }

    private static boolean isBeyond(BigInteger d) {
        return d.compareTo(LEAST) < 0 || d.compareTo(MOST) > 0;
    }

    private static void same(String of, ApologyLedger x, List<Integer> numbers) {
        BigInteger d = exact(numbers);
        CHECKS.same("is beyond 64 bits, " + of, isBeyond(d), true);
        CHECKS.same("digest() " + of, x.digest(), d.longValue());
    }

    /** The document's numbers, in its order, as the calls answer them. */
    private static List<Integer> numbersOf(ApologyLedger x) {
        List<Integer> numbers = new ArrayList<>(List.of(x.day(), x.persons(), x.slights(), x.inHall(), x.scorned(), x.sorest()));
        for (int state = 0; state <= 3; state++) {
            numbers.add(x.inState(state));
        }
        numbers.add(x.heaviest());
        numbers.add(x.pairsToSetOff());
        int persons = numbers.get(1);
        for (int p = 0; p < persons; p++) {
            numbers.addAll(List.of(x.isInHall(p) ? 1 : 0, x.prideOf(p), x.borneBy(p), x.owedBy(p), x.borneIn(p, 10), x.worstToKeep(p)));
        }
        int slights = numbers.get(2);
        for (int s = 0; s < slights; s++) {
            numbers.addAll(List.of(x.weightOf(s), x.stateOf(s), x.borneFor(s), x.quietFor(s), x.witnessesFor(s)));
            numbers.addAll(List.of(x.wordsWanted(s), x.weightIn(s, 7), x.daysUntilForgotten(s)));
        }
        return numbers;
    }

    /** Eleven numbers of the twelve that a new ledger has are the least that do not fit any more. */
    private static void theLeastOneWraps() {
        CHECKS.sentence("Promise 38", "d becomes d * 31 + x, which wraps around as a 64-bit integer");
        List<Integer> numbers = List.of(0, 0, 0, 0, 0, -1, 0, 0, 0, 0, -1, 0);
        CHECKS.same("ten numbers fit", isBeyond(exact(numbers.subList(0, 10))), false);
        CHECKS.same("eleven do not", isBeyond(exact(numbers.subList(0, 11))), true);
        same("of a new one", new ApologyLedger(), numbers);
        CHECKS.same("digest() of a new one, reckoned apart", new ApologyLedger().digest(), NEW_ONE);
    }

    private static void wrapsAroundOnce() {
        CHECKS.sentence("Promise 38", "A number d starts with 2027;");
        same("of one person", Ledgers.withPrides(9), List.of(0, 1, 0, 0, 0, 0, 0, 0, 0, 0, -1, 0, 0, 9, 0, 0, 0, -1));
        CHECKS.same("digest() of one person, reckoned apart", Ledgers.withPrides(9).digest(), ONE_PERSON);
        ApologyLedger x = Ledgers.withPrides(0, 9);
        x.slight(0, 1, 20);
        CHECKS.same("digest() of one slight, reckoned apart", x.digest(), ONE_SLIGHT);
        same("of one slight", x, List.of(0, 2, 1, 0, 0, 1, 1, 0, 0, 0, 0, 0,
            0, 0, 0, 20, 0, 0, 0, 9, 20, 0, 24, -1, 20, 0, 0, 0, 0, 20, 22, 30));
    }

    private static void wrapsAroundMany() {
        CHECKS.sentence("Promise 38", "which wraps around as a 64-bit integer");
        for (int count = 0; count <= 6; count++) {
            same("of " + count + " persons", Ledgers.ofPersons(count), numbersOf(Ledgers.ofPersons(count)));
        }
        for (int count = 0; count <= 20; count++) {
            same("of " + count + " slights", Ledgers.ofSlights(count), numbersOf(Ledgers.ofSlights(count)));
        }
        same("of each state", Ledgers.ofEachState(), numbersOf(Ledgers.ofEachState()));
        same("of twenty at 99", Ledgers.allAt99(), numbersOf(Ledgers.allAt99()));
        for (int days = 1; days <= 60; days++) {
            same("behind pass(" + days + ")", Ledgers.quietFor(days), numbersOf(Ledgers.quietFor(days)));
        }
    }

    /** From the day 660 on each day's checksum is greater by 31^11, till it wraps from the most to the least. */
    private static void wrapsFromMostToLeast() {
        CHECKS.sentence("Promise 38", "wraps around as a 64-bit integer");
        ApologyLedger x = new ApologyLedger();
        for (int i = 0; i < 11; i++) {
            x.pass(60);
        }
        long before = x.digest();
        int wraps = 0;
        for (int day = 661; day <= 720; day++) {
            x.pass(1);
            long d = x.digest();
            CHECKS.same("digest() on the day " + day, d, exact(List.of(day, 0, 0, 0, 0, -1, 0, 0, 0, 0, -1, 0)).longValue());
            wraps += before > 0 && d < 0 ? 1 : 0;
            before = d;
        }
        CHECKS.same("how often it wraps in these days", wraps, 1);
    }

    private static void soCountsOne() {
        CHECKS.sentence("Promise 38", "(whether something is so counts 1 or 0)");
        ApologyLedger x = Ledgers.withPrides(0, 0);
        same("nobody in the hall", x, List.of(0, 2, 0, 0, 0, 0, 0, 0, 0, 0, -1, 0, 0, 0, 0, 0, 0, -1, 0, 0, 0, 0, 0, -1));
        x.enter(1);
        same("one in the hall", x, List.of(0, 2, 0, 1, 0, 0, 0, 0, 0, 0, -1, 0, 0, 0, 0, 0, 0, -1, 1, 0, 0, 0, 0, -1));
        x.enter(0);
        same("both in the hall", x, List.of(0, 2, 0, 2, 0, 0, 0, 0, 0, 0, -1, 0, 1, 0, 0, 0, 0, -1, 1, 0, 0, 0, 0, -1));
    }

    private static void countsWithMinusOne() {
        CHECKS.sentence("Promise 38", "sorest(), inState() of 0 to 3, heaviest(), pairsToSetOff();");
        ApologyLedger x = Ledgers.withPrides(0, 0);
        x.slight(0, 1, 3);
        x.apologize(0, 3);
        same("one settled", x, List.of(0, 2, 1, 0, 0, 0, 0, 1, 0, 0, -1, 0,
            0, 0, 0, 0, 0, -1, 0, 0, 0, 0, 0, -1, 0, 1, 0, 0, 0, -1, 0, -1));
        ApologyLedger y = Ledgers.withPrides(0, 0);
        y.slight(0, 1, 3);
        y.pass(23);
        same("one forgotten in seven days", y, List.of(23, 2, 1, 0, 0, 1, 1, 0, 0, 0, 0, 0,
            0, 0, 0, 7, 0, 0, 0, 0, 7, 0, 0, -1, 7, 0, 23, 23, 0, 7, 0, 7));
        y.pass(7);
        same("one forgotten", y, List.of(30, 2, 1, 0, 0, 0, 0, 0, 1, 0, -1, 0,
            0, 0, 0, 0, 0, -1, 0, 0, 0, 0, 0, -1, 0, 2, 30, 30, 0, -1, 0, -1));
    }

    private static void emptyAndFull() {
        CHECKS.sentence("Promise 38", "then for each person isInHall(), prideOf(), borneBy(), owedBy(), borneIn() of 10 days, worstToKeep(); for each slight");
        CHECKS.same("numbers of an empty one", numbersOf(new ApologyLedger()).size(), 12);
        CHECKS.same("numbers of a full one", numbersOf(Ledgers.full()).size(), 12 + 6 * 6 + 20 * 8);
        same("of a full one", Ledgers.full(), numbersOf(Ledgers.full()));
        ApologyLedger x = Ledgers.full();
        long before = x.digest();
        CHECKS.same("digest() again", x.digest(), before);
        CHECKS.thrown("a 21st slight", IllegalStateException.class, () -> x.slight(0, 1, 1));
        CHECKS.thrown("a seventh person", IllegalStateException.class, () -> x.addPerson(0));
        CHECKS.same("digest() behind refused calls", x.digest(), before);
    }
}
