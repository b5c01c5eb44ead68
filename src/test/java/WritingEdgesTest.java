import java.util.function.Supplier;

/** The boundary cases that promises 1 to 9 name, and each refused call, a method for each sentence. */
public final class WritingEdgesTest {
    private static final Checks CHECKS = new Checks();
    private static final Edges EDGES = new Edges(CHECKS);
    private static final int[] BEYOND_WORDS = {0, 21};

    private WritingEdgesTest() {
    }

    public static void main(String[] args) {
        aNewObject();
        aNewObjectHasNobody();
        aNewObjectHasNothing();
        addPersonPride();
        addPersonFull();
        addPersonBoth();
        enterOutAndIn();
        enterNobody();
        slightNobody();
        slightOneself();
        slightWeight();
        slightFull();
        slightSeveral();
        mentionNothing();
        mentionNotOpen();
        apologizeNothing();
        apologizeWords();
        apologizeNotOpen();
        apologizeSeveral();
        setOffNothing();
        setOffNotOpen();
        setOffNotAgainstEachOther();
        setOffSeveral();
        setPrideNobody();
        setPridePride();
        setPrideBoth();
        passForgetsSoMany();
        passDays();
        CHECKS.end();
    }

    private static void aNewObject() {
        CHECKS.sentence("Promise 1", "Creates a ledger without persons and slights, at the day 0.");
        ApologyLedger x = new ApologyLedger();
        CHECKS.same("day()", x.day(), 0);
        CHECKS.same("persons()", x.persons(), 0);
        CHECKS.same("slights()", x.slights(), 0);
        CHECKS.same("inHall()", x.inHall(), 0);
        CHECKS.same("scorned()", x.scorned(), 0);
        CHECKS.same("sorest()", x.sorest(), -1);
        for (int state = 0; state <= 3; state++) {
            CHECKS.same("inState(" + state + ")", x.inState(state), 0);
        }
        CHECKS.same("heaviest()", x.heaviest(), -1);
        CHECKS.same("pairsToSetOff()", x.pairsToSetOff(), 0);
        CHECKS.sameDouble("meanWeight()", x.meanWeight(), 0.0);
        CHECKS.same("pass(60)", x.pass(60), 0);
        ApologyLedger other = new ApologyLedger();
        x.addPerson(0);
        CHECKS.same("another object's persons()", other.persons(), 0);
        CHECKS.same("another object's day()", other.day(), 0);
    }

    private static void aNewObjectHasNobody() {
        CHECKS.sentence("Promise 1", "Creates a ledger without persons");
        Supplier<ApologyLedger> made = ApologyLedger::new;
        CHECKS.noSuch("enter(0)", made, x -> x.enter(0));
        CHECKS.noSuch("slight(0, 1, 1)", made, x -> x.slight(0, 1, 1));
        CHECKS.noSuch("setPride(0, 1)", made, x -> x.setPride(0, 1));
        CHECKS.noSuch("isInHall(0)", made, x -> x.isInHall(0));
        CHECKS.noSuch("prideOf(0)", made, x -> x.prideOf(0));
        CHECKS.noSuch("borneBy(0)", made, x -> x.borneBy(0));
        CHECKS.noSuch("owedBy(0)", made, x -> x.owedBy(0));
        CHECKS.noSuch("balance(0, 0)", made, x -> x.balance(0, 0));
        CHECKS.noSuch("borneIn(0, 1)", made, x -> x.borneIn(0, 1));
        CHECKS.noSuch("worstToKeep(0)", made, x -> x.worstToKeep(0));
    }

    private static void aNewObjectHasNothing() {
        CHECKS.sentence("Promise 1", "and slights, at the day 0.");
        Supplier<ApologyLedger> made = ApologyLedger::new;
        CHECKS.noSuch("mention(0)", made, x -> x.mention(0));
        CHECKS.noSuch("apologize(0, 1)", made, x -> x.apologize(0, 1));
        CHECKS.noSuch("setOff(0, 0)", made, x -> x.setOff(0, 0));
        CHECKS.noSuch("offenderOf(0)", made, x -> x.offenderOf(0));
        CHECKS.noSuch("offendedOf(0)", made, x -> x.offendedOf(0));
        CHECKS.noSuch("weightOf(0)", made, x -> x.weightOf(0));
        CHECKS.noSuch("stateOf(0)", made, x -> x.stateOf(0));
        CHECKS.noSuch("borneFor(0)", made, x -> x.borneFor(0));
        CHECKS.noSuch("quietFor(0)", made, x -> x.quietFor(0));
        CHECKS.noSuch("witnessesFor(0)", made, x -> x.witnessesFor(0));
        CHECKS.noSuch("wordsWanted(0)", made, x -> x.wordsWanted(0));
        CHECKS.noSuch("wouldBeScorned(0, 1)", made, x -> x.wouldBeScorned(0, 1));
        CHECKS.noSuch("weightIn(0, 1)", made, x -> x.weightIn(0, 1));
        CHECKS.noSuch("daysUntilForgotten(0)", made, x -> x.daysUntilForgotten(0));
    }

    private static void addPersonPride() {
        CHECKS.sentence("Promise 2", "Throws `IllegalArgumentException` if pride is not 0 to 9");
        EDGES.numbers("addPerson without persons", 0, 9, ApologyLedger::new, ApologyLedger::addPerson);
        EDGES.numbers("addPerson with 5", 0, 9, () -> Ledgers.ofPersons(5), ApologyLedger::addPerson);
        ApologyLedger x = Ledgers.ofPersons(1);
        CHECKS.thrown("addPerson(10)", IllegalArgumentException.class, () -> x.addPerson(10));
        CHECKS.same("addPerson(9) behind a refused one", x.addPerson(9), 1);
        CHECKS.same("prideOf(1)", x.prideOf(1), 9);
    }

    private static void addPersonFull() {
        CHECKS.sentence("Promise 2", "Throws `IllegalStateException` if there are 6");
        CHECKS.same("addPerson(0) with 5", Ledgers.ofPersons(5).addPerson(0), 5);
        CHECKS.badState("addPerson(0) with 6", () -> Ledgers.ofPersons(6), x -> x.addPerson(0));
        CHECKS.badState("addPerson(9) with 6", Ledgers::full, x -> x.addPerson(9));
        ApologyLedger x = Ledgers.ofPersons(6);
        CHECKS.thrown("addPerson(9) with 6", IllegalStateException.class, () -> x.addPerson(9));
        CHECKS.thrown("addPerson(9) with 6, again", IllegalStateException.class, () -> x.addPerson(9));
        CHECKS.same("persons()", x.persons(), 6);
        CHECKS.same("prideOf(5)", x.prideOf(5), 0);
    }

    private static void addPersonBoth() {
        CHECKS.sentence("Terms, for promise 2", "If several exceptions apply, the one that is named first is thrown.");
        CHECKS.badArgument("addPerson(10) with 6", () -> Ledgers.ofPersons(6), x -> x.addPerson(10));
        CHECKS.badArgument("addPerson(-1) with 6", Ledgers::full, x -> x.addPerson(-1));
    }

    private static void enterOutAndIn() {
        CHECKS.sentence("Promise 3", "Lets a person come into the hall, or leave it.");
        ApologyLedger x = Ledgers.ofPersons(6);
        for (int person = 0; person < 6; person++) {
            CHECKS.same("enter(" + person + ")", x.enter(person), true);
            CHECKS.same("inHall()", x.inHall(), person + 1);
        }
        for (int person = 0; person < 6; person++) {
            CHECKS.same("enter(" + person + ") again", x.enter(person), false);
            CHECKS.same("inHall()", x.inHall(), 5 - person);
        }
    }

    private static void enterNobody() {
        CHECKS.sentence("Promise 3", "Throws `IndexOutOfBoundsException` if there is no such person");
        EDGES.persons("enter", ApologyLedger::enter, 0, 1, 3, 6);
    }

    private static int anotherThan(int person) {
        return person == 0 ? 1 : 0;
    }

    private static void slightNobody() {
        CHECKS.sentence("Promise 4", "Throws `IndexOutOfBoundsException` if there is no such person");
        EDGES.persons("offender", (x, person) -> x.slight(person, anotherThan(person), 5), 0, 2, 6);
        EDGES.persons("offended", (x, person) -> x.slight(anotherThan(person), person, 5), 0, 2, 6);
        CHECKS.noSuch("slight(0, 1, 5) of one person", () -> Ledgers.ofPersons(1), x -> x.slight(0, 1, 5));
        CHECKS.noSuch("slight(1, 0, 5) of one person", () -> Ledgers.ofPersons(1), x -> x.slight(1, 0, 5));
    }

    private static void slightOneself() {
        CHECKS.sentence("Promise 4", "Throws `IllegalArgumentException` if both are the same,");
        for (int person = 0; person < 6; person++) {
            int same = person;
            CHECKS.badArgument("slight(" + same + ", " + same + ", 5)", Ledgers::fullHall, x -> x.slight(same, same, 5));
        }
        CHECKS.badArgument("slight(0, 0, 1) of one person", () -> Ledgers.ofPersons(1), x -> x.slight(0, 0, 1));
    }

    private static void slightWeight() {
        CHECKS.sentence("Promise 4", "or weight is not 1 to 20");
        EDGES.numbers("weight of the first slight", 1, 20, Ledgers::ofThree, (x, weight) -> x.slight(0, 2, weight));
        EDGES.numbers("weight of the twentieth", 1, 20, () -> Ledgers.ofSlights(19), (x, weight) -> x.slight(5, 4, weight));
        ApologyLedger x = Ledgers.ofThree();
        CHECKS.thrown("slight(2, 1, 21)", IllegalArgumentException.class, () -> x.slight(2, 1, 21));
        CHECKS.same("slight(0, 1, 20) behind a refused one", x.slight(0, 1, 20), 0);
        CHECKS.same("weightOf(0)", x.weightOf(0), 20);
        CHECKS.same("offenderOf(0)", x.offenderOf(0), 0);
    }

    private static ApologyLedger fullOfSettled() {
        ApologyLedger x = Ledgers.full();
        for (int slight = 0; slight < 20; slight++) {
            x.apologize(slight, 20);
        }
        return x;
    }

    private static ApologyLedger fullOfForgotten() {
        ApologyLedger x = Ledgers.full();
        x.pass(30);
        return x;
    }

    /** Those of even numbers are set off, the others keep the weight 1. */
    private static ApologyLedger fullWithSetOff() {
        ApologyLedger x = Ledgers.ofSlights(20);
        for (int slight = 0; slight < 20; slight += 2) {
            x.setOff(slight, slight + 1);
        }
        return x;
    }

    private static void slightFull() {
        CHECKS.sentence("Promise 4", "Throws `IllegalStateException` if there are 20");
        CHECKS.same("slight(0, 1, 1) with 19", Ledgers.ofSlights(19).slight(0, 1, 1), 19);
        CHECKS.badState("slight(0, 1, 1) with 20", Ledgers::full, x -> x.slight(0, 1, 1));
        CHECKS.badState("slight(5, 4, 20) with 20", Ledgers::full, x -> x.slight(5, 4, 20));
        CHECKS.badState("slight(0, 1, 1) with 20, all settled", WritingEdgesTest::fullOfSettled, x -> x.slight(0, 1, 1));
        CHECKS.badState("slight(0, 1, 1) with 20, all forgotten", WritingEdgesTest::fullOfForgotten, x -> x.slight(0, 1, 1));
        CHECKS.badState("slight(0, 1, 1) with 20, ten set off", WritingEdgesTest::fullWithSetOff, x -> x.slight(0, 1, 1));
        CHECKS.same("inState(3) of those", fullWithSetOff().inState(3), 10);
    }

    private static void slightSeveral() {
        CHECKS.sentence("Terms, for promise 4", "If several exceptions apply, the one that is named first is thrown.");
        Supplier<ApologyLedger> three = Ledgers::ofThree;
        CHECKS.noSuch("slight(3, 3, 5), nobody and the same", three, x -> x.slight(3, 3, 5));
        CHECKS.noSuch("slight(-1, -1, 5), nobody and the same", three, x -> x.slight(-1, -1, 5));
        CHECKS.noSuch("slight(3, 0, 0), nobody and the weight", three, x -> x.slight(3, 0, 0));
        CHECKS.noSuch("slight(0, 3, 21), nobody and the weight", three, x -> x.slight(0, 3, 21));
        CHECKS.badArgument("slight(1, 1, 21), the same and the weight", three, x -> x.slight(1, 1, 21));
        CHECKS.noSuch("slight(6, 0, 5) with 20", Ledgers::full, x -> x.slight(6, 0, 5));
        CHECKS.noSuch("slight(0, 6, 5) with 20", Ledgers::full, x -> x.slight(0, 6, 5));
        CHECKS.noSuch("slight(0, -1, 0) with 20", Ledgers::full, x -> x.slight(0, -1, 0));
        CHECKS.badArgument("slight(1, 1, 5) with 20", Ledgers::full, x -> x.slight(1, 1, 5));
        CHECKS.badArgument("slight(0, 1, 0) with 20", Ledgers::full, x -> x.slight(0, 1, 0));
        CHECKS.badArgument("slight(0, 1, 21) with 20", Ledgers::full, x -> x.slight(0, 1, 21));
    }

    private static void mentionNothing() {
        CHECKS.sentence("Promise 5", "Throws `IndexOutOfBoundsException` if there is no such slight");
        EDGES.slights("mention", ApologyLedger::mention);
    }

    private static void mentionNotOpen() {
        CHECKS.sentence("Promise 5", "Throws `IllegalStateException` if it is not open");
        CHECKS.allowed("mention(0), open", Ledgers::ofEachState, x -> x.mention(0));
        for (int slight = 1; slight <= 3; slight++) {
            int closed = slight;
            CHECKS.badState("mention(" + closed + ")", Ledgers::ofEachState, x -> x.mention(closed));
        }
    }

    private static void apologizeNothing() {
        CHECKS.sentence("Promise 6", "Throws `IndexOutOfBoundsException` if there is no such slight");
        EDGES.slights("apologize", (x, slight) -> x.apologize(slight, 5));
    }

    private static void apologizeWords() {
        CHECKS.sentence("Promise 6", "Throws `IllegalArgumentException` if words is not 1 to 20");
        EDGES.numbers("words", 1, 20, Ledgers::ofEachState, (x, words) -> x.apologize(0, words));
        EDGES.numbers("words, the last of twenty", 1, 20, Ledgers::full, (x, words) -> x.apologize(19, words));
    }

    private static void apologizeNotOpen() {
        CHECKS.sentence("Promise 6", "Throws `IllegalStateException` if it is not open");
        for (int slight = 1; slight <= 3; slight++) {
            int closed = slight;
            CHECKS.badState("apologize(" + closed + ", 1)", Ledgers::ofEachState, x -> x.apologize(closed, 1));
            CHECKS.badState("apologize(" + closed + ", 20)", Ledgers::ofEachState, x -> x.apologize(closed, 20));
        }
    }

    private static void apologizeSeveral() {
        CHECKS.sentence("Terms, for promise 6", "If several exceptions apply, the one that is named first is thrown.");
        for (int words : BEYOND_WORDS) {
            CHECKS.noSuch("apologize(-1, " + words + ")", Ledgers::ofEachState, x -> x.apologize(-1, words));
            CHECKS.noSuch("apologize(5, " + words + ")", Ledgers::ofEachState, x -> x.apologize(5, words));
            CHECKS.noSuch("apologize(20, " + words + ")", Ledgers::full, x -> x.apologize(20, words));
            for (int slight = 1; slight <= 3; slight++) {
                int closed = slight;
                CHECKS.badArgument("apologize(" + closed + ", " + words + "), not open", Ledgers::ofEachState,
                    x -> x.apologize(closed, words));
            }
        }
    }

    /** The one that it can be set off against; for one that there is not, one that there is. */
    private static int partnerOf(int slight, ApologyLedger x) {
        if (slight < 0 || slight >= x.slights()) {
            return 0;
        }
        return slight % 2 == 0 ? slight + 1 : slight - 1;
    }

    private static void setOffNothing() {
        CHECKS.sentence("Promise 7", "Throws `IndexOutOfBoundsException` if there is no such slight");
        EDGES.slights("one", (x, one) -> x.setOff(one, partnerOf(one, x)));
        EDGES.slights("other", (x, other) -> x.setOff(partnerOf(other, x), other));
    }

    /** Slight 0, of 0 against 1, is in the state; the last one, of 1 against 0, is open. */
    private static ApologyLedger oneOf(int state) {
        ApologyLedger x = Ledgers.ofThree();
        x.slight(0, 1, 20);
        if (state == Ledgers.SETTLED) {
            x.apologize(0, 20);
        } else if (state == Ledgers.FORGOTTEN) {
            x.pass(30);
        } else if (state == Ledgers.SET_OFF) {
            x.slight(1, 0, 20);
            x.setOff(0, 1);
        }
        x.slight(1, 0, 9);
        return x;
    }

    private static void setOffNotOpen() {
        CHECKS.sentence("Promise 7", "Throws `IllegalStateException` if one of both is not open,");
        CHECKS.allowed("setOff(0, 1), both open", () -> oneOf(Ledgers.OPEN), x -> x.setOff(0, 1));
        for (int state = 1; state <= 3; state++) {
            int closed = state;
            int open = state == Ledgers.SET_OFF ? 2 : 1;
            CHECKS.same("stateOf(0)", oneOf(closed).stateOf(0), closed);
            CHECKS.badState("setOff(0, open), in the state " + state, () -> oneOf(closed), x -> x.setOff(0, open));
            CHECKS.badState("setOff(open, 0), in the state " + state, () -> oneOf(closed), x -> x.setOff(open, 0));
        }
        CHECKS.badState("setOff(0, 1), both set off", () -> oneOf(Ledgers.SET_OFF), x -> x.setOff(0, 1));
        CHECKS.badState("setOff(1, 0), both set off", () -> oneOf(Ledgers.SET_OFF), x -> x.setOff(1, 0));
    }

    /** Slight 0 is that of 0 against 1; slight 1 that of these two. */
    private static ApologyLedger besides(int offender, int offended) {
        ApologyLedger x = Ledgers.ofPersons(4);
        x.slight(0, 1, 8);
        x.slight(offender, offended, 5);
        return x;
    }

    private static void setOffNotAgainstEachOther() {
        CHECKS.sentence("Promise 7", "or they are not of two persons against each other");
        CHECKS.same("setOff(0, 1) of 0 against 1 and 1 against 0", besides(1, 0).setOff(0, 1), 5);
        CHECKS.badState("setOff(0, 0), one with itself", () -> besides(1, 0), x -> x.setOff(0, 0));
        int[][] others = {{0, 1}, {0, 2}, {1, 2}, {2, 0}, {2, 1}, {2, 3}, {3, 2}};
        for (int[] other : others) {
            String pair = " of 0 against 1 and " + other[0] + " against " + other[1];
            CHECKS.badState("setOff(0, 1)" + pair, () -> besides(other[0], other[1]), x -> x.setOff(0, 1));
            CHECKS.badState("setOff(1, 0)" + pair, () -> besides(other[0], other[1]), x -> x.setOff(1, 0));
        }
    }

    private static void setOffSeveral() {
        CHECKS.sentence("Terms, for promise 7", "If several exceptions apply, the one that is named first is thrown.");
        for (int slight = 1; slight <= 3; slight++) {
            int closed = slight;
            CHECKS.noSuch("setOff(" + closed + ", 5), not open", Ledgers::ofEachState, x -> x.setOff(closed, 5));
            CHECKS.noSuch("setOff(" + closed + ", -1), not open", Ledgers::ofEachState, x -> x.setOff(closed, -1));
            CHECKS.noSuch("setOff(5, " + closed + "), not open", Ledgers::ofEachState, x -> x.setOff(5, closed));
        }
        CHECKS.noSuch("setOff(5, 5), one with itself", Ledgers::ofEachState, x -> x.setOff(5, 5));
        CHECKS.noSuch("setOff(20, 0) of twenty", Ledgers::full, x -> x.setOff(20, 0));
        CHECKS.noSuch("setOff(0, 20) of twenty", Ledgers::full, x -> x.setOff(0, 20));
    }

    private static void setPrideNobody() {
        CHECKS.sentence("Promise 8", "Throws `IndexOutOfBoundsException` if there is no such person");
        EDGES.persons("setPride", (x, person) -> x.setPride(person, 5), 0, 1, 3, 6);
    }

    private static void setPridePride() {
        CHECKS.sentence("Promise 8", "Throws `IllegalArgumentException` if pride is not 0 to 9");
        EDGES.numbers("pride of the first", 0, 9, Ledgers::ofThree, (x, pride) -> x.setPride(0, pride));
        EDGES.numbers("pride of the sixth", 0, 9, Ledgers::full, (x, pride) -> x.setPride(5, pride));
    }

    private static void setPrideBoth() {
        CHECKS.sentence("Terms, for promise 8", "If several exceptions apply, the one that is named first is thrown.");
        for (int pride : new int[] {-1, 10}) {
            CHECKS.noSuch("setPride(-1, " + pride + ")", Ledgers::ofThree, x -> x.setPride(-1, pride));
            CHECKS.noSuch("setPride(3, " + pride + ")", Ledgers::ofThree, x -> x.setPride(3, pride));
            CHECKS.noSuch("setPride(6, " + pride + ")", Ledgers::full, x -> x.setPride(6, pride));
        }
    }

    private static void passForgetsSoMany() {
        CHECKS.sentence("Promise 9", "Returns how many slights are forgotten in them.");
        CHECKS.same("pass(60) without slights", Ledgers.ofThree().pass(60), 0);
        CHECKS.same("pass(29) of twenty", Ledgers.full().pass(29), 0);
        CHECKS.same("pass(30) of twenty", Ledgers.full().pass(30), 20);
        CHECKS.same("pass(60) of twenty", Ledgers.full().pass(60), 20);
        ApologyLedger x = Ledgers.full();
        x.pass(29);
        x.mention(19);
        CHECKS.same("pass(1) of twenty, one spoken of", x.pass(1), 19);
        CHECKS.same("pass(28)", x.pass(28), 0);
        CHECKS.same("pass(1)", x.pass(1), 1);
        CHECKS.same("pass(60), all forgotten", x.pass(60), 0);
    }

    private static void passDays() {
        CHECKS.sentence("Promise 9", "Throws `IllegalArgumentException` if days is not 1 to 60");
        EDGES.numbers("pass without persons", 1, 60, ApologyLedger::new, ApologyLedger::pass);
        EDGES.numbers("pass of each state", 1, 60, Ledgers::ofEachState, ApologyLedger::pass);
        EDGES.numbers("pass of twenty", 1, 60, Ledgers::full, ApologyLedger::pass);
    }
}
