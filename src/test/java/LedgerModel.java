import java.util.ArrayList;
import java.util.List;

/**
 * The document told a second time, another way: what would be is found here by doing it on a copy.
 * It refuses nothing; it is called only with what the document allows.
 */
final class LedgerModel {
    private static final class Person {
        int pride;
        boolean here;
    }

    private static final class Slight {
        int by;
        int against;
        int weight;
        int state;
        int borne;
        int quiet;

        boolean open() {
            return state == Ledgers.OPEN;
        }

        void speak() {
            weight = weight == 99 ? 99 : weight + 1;
            quiet = 0;
        }

        void end(int how) {
            state = how;
            weight = 0;
        }
    }

    private final List<Person> people = new ArrayList<>();
    private final List<Slight> all = new ArrayList<>();
    int day;
    int scorned;

    LedgerModel copy() {
        LedgerModel m = new LedgerModel();
        m.day = day;
        m.scorned = scorned;
        for (Person p : people) {
            m.addPerson(p.pride);
            m.people.get(m.people.size() - 1).here = p.here;
        }
        for (Slight s : all) {
            m.slight(s.by, s.against, s.weight);
            Slight t = m.all.get(m.all.size() - 1);
            t.state = s.state;
            t.borne = s.borne;
            t.quiet = s.quiet;
        }
        return m;
    }

    int persons() {
        return people.size();
    }

    int slights() {
        return all.size();
    }

    int addPerson(int pride) {
        Person p = new Person();
        p.pride = pride;
        people.add(p);
        return people.size() - 1;
    }

    boolean enter(int person) {
        Person p = people.get(person);
        p.here = !p.here;
        return p.here;
    }

    int slight(int by, int against, int weight) {
        Slight s = new Slight();
        s.by = by;
        s.against = against;
        s.weight = weight;
        all.add(s);
        return all.size() - 1;
    }

    int mention(int slight) {
        all.get(slight).speak();
        return all.get(slight).weight;
    }

    int apologize(int slight, int words) {
        Slight s = all.get(slight);
        int worth = words;
        for (int i = 0; i < witnessesFor(slight); i++) {
            worth += 2;
        }
        if (worth < people.get(s.against).pride || worth < s.weight / 4) {
            scorned++;
            s.speak();
        } else if (worth >= s.weight) {
            s.end(Ledgers.SETTLED);
        } else {
            s.weight -= worth;
        }
        return s.weight;
    }

    boolean canSetOff(int one, int other) {
        Slight s = all.get(one);
        Slight t = all.get(other);
        return s.open() && t.open() && s.by == t.against && s.against == t.by;
    }

    int setOff(int one, int other) {
        int less = Math.min(all.get(one).weight, all.get(other).weight);
        for (int slight : new int[] {one, other}) {
            Slight s = all.get(slight);
            s.weight -= less;
            if (s.weight == 0) {
                s.end(Ledgers.SET_OFF);
            }
        }
        return less;
    }

    int setPride(int person, int pride) {
        int before = people.get(person).pride;
        people.get(person).pride = pride;
        return before;
    }

    int pass(int days) {
        int forgotten = 0;
        for (int i = 0; i < days; i++) {
            for (Slight s : all) {
                forgotten += s.open() && isForgottenToday(s) ? 1 : 0;
            }
            day++;
        }
        return forgotten;
    }

    private static boolean isForgottenToday(Slight s) {
        s.borne++;
        s.quiet++;
        if (s.borne % 5 == 0) {
            int more = s.weight < 20 ? 1 : s.weight / 10;
            s.weight = s.weight + more > 99 ? 99 : s.weight + more;
        }
        if (s.quiet != 30) {
            return false;
        }
        s.end(Ledgers.FORGOTTEN);
        return true;
    }

    int inHall() {
        return (int) people.stream().filter(p -> p.here).count();
    }

    boolean isInHall(int person) {
        return people.get(person).here;
    }

    int prideOf(int person) {
        return people.get(person).pride;
    }

    int borneBy(int person) {
        return all.stream().filter(s -> s.open() && s.against == person).mapToInt(s -> s.weight).sum();
    }

    int owedBy(int person) {
        return all.stream().filter(s -> s.open() && s.by == person).mapToInt(s -> s.weight).sum();
    }

    int balance(int one, int other) {
        int sum = 0;
        for (Slight s : all) {
            sum += s.open() && s.by == one && s.against == other ? s.weight : 0;
            sum -= s.open() && s.by == other && s.against == one ? s.weight : 0;
        }
        return sum;
    }

    int sorest() {
        int sorest = people.isEmpty() ? -1 : 0;
        for (int person = 1; person < people.size(); person++) {
            sorest = borneBy(person) > borneBy(sorest) ? person : sorest;
        }
        return sorest;
    }

    int offenderOf(int slight) {
        return all.get(slight).by;
    }

    int offendedOf(int slight) {
        return all.get(slight).against;
    }

    int weightOf(int slight) {
        return all.get(slight).weight;
    }

    int stateOf(int slight) {
        return all.get(slight).state;
    }

    int borneFor(int slight) {
        return all.get(slight).borne;
    }

    int quietFor(int slight) {
        return all.get(slight).quiet;
    }

    int witnessesFor(int slight) {
        Slight s = all.get(slight);
        int count = inHall();
        count -= people.get(s.by).here ? 1 : 0;
        count -= people.get(s.against).here ? 1 : 0;
        return count;
    }

    int inState(int state) {
        return (int) all.stream().filter(s -> s.state == state).count();
    }

    int heaviest() {
        for (int weight = 99; weight > 0; weight--) {
            for (int slight = 0; slight < all.size(); slight++) {
                if (all.get(slight).open() && all.get(slight).weight == weight) {
                    return slight;
                }
            }
        }
        return -1;
    }

    int pairsToSetOff() {
        int twice = 0;
        for (int one = 0; one < all.size(); one++) {
            for (int other = 0; other < all.size(); other++) {
                twice += canSetOff(one, other) ? 1 : 0;
            }
        }
        return twice / 2;
    }

    int wordsWanted(int slight) {
        for (int words = 1; words <= 20 && all.get(slight).open(); words++) {
            LedgerModel then = copy();
            then.apologize(slight, words);
            if (then.stateOf(slight) == Ledgers.SETTLED) {
                return words;
            }
        }
        return -1;
    }

    boolean wouldBeScorned(int slight, int words) {
        if (!all.get(slight).open()) {
            return false;
        }
        LedgerModel then = copy();
        then.apologize(slight, words);
        return then.scorned > scorned;
    }

    private LedgerModel behind(int days) {
        LedgerModel then = copy();
        then.pass(days);
        return then;
    }

    int weightIn(int slight, int days) {
        return behind(days).weightOf(slight);
    }

    int daysUntilForgotten(int slight) {
        if (!all.get(slight).open()) {
            return -1;
        }
        int days = 1;
        while (behind(days).stateOf(slight) != Ledgers.FORGOTTEN) {
            days++;
        }
        return days;
    }

    int borneIn(int person, int days) {
        return behind(days).borneBy(person);
    }

    int worstToKeep(int person) {
        LedgerModel then = behind(20);
        int worst = -1;
        int most = 0;
        for (int slight = 0; slight < all.size(); slight++) {
            int heavier = then.weightOf(slight) - weightOf(slight);
            boolean counts = all.get(slight).open() && all.get(slight).by == person;
            if (counts && (worst == -1 || heavier > most)) {
                worst = slight;
                most = heavier;
            }
        }
        return worst;
    }

    double meanWeight() {
        return all.stream().filter(Slight::open).mapToInt(s -> s.weight).average().orElse(0.0);
    }

    long digest() {
        List<Integer> numbers = new ArrayList<>(List.of(day, persons(), slights(), inHall(), scorned, sorest()));
        numbers.addAll(List.of(inState(0), inState(1), inState(2), inState(3), heaviest(), pairsToSetOff()));
        for (int p = 0; p < people.size(); p++) {
            numbers.addAll(List.of(isInHall(p) ? 1 : 0, prideOf(p), borneBy(p), owedBy(p)));
            numbers.addAll(List.of(borneIn(p, 10), worstToKeep(p)));
        }
        for (int s = 0; s < all.size(); s++) {
            numbers.addAll(List.of(weightOf(s), stateOf(s), borneFor(s), quietFor(s), witnessesFor(s)));
            numbers.addAll(List.of(wordsWanted(s), weightIn(s, 7), daysUntilForgotten(s)));
        }
        long d = 2027;
        for (int x : numbers) {
            d = d * 31 + x;
        }
        return d;
    }
}
