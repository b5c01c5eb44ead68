/** The boundary cases that promises 10 to 20 name, and each refused call, a method for each sentence. */
public final class PersonsEdgesTest {
    private static final Checks CHECKS = new Checks();
    private static final Edges EDGES = new Edges(CHECKS);

    private PersonsEdgesTest() {
    }

    public static void main(String[] args) {
        day();
        persons();
        slights();
        inHall();
        scorned();
        isInHallNobody();
        prideOfNobody();
        borneByNoneToAll();
        borneByOpenOnes();
        borneByNobody();
        owedByNoneToAll();
        owedByOpenOnes();
        owedByNobody();
        balanceOfTheSame();
        balanceNoneToAll();
        balanceNobody();
        sorestOfSeveral();
        sorestOfNobody();
        CHECKS.end();
    }

    private static void day() {
        CHECKS.sentence("Promise 10", "Returns the day.");
        ApologyLedger x = new ApologyLedger();
        CHECKS.same("day() at first", x.day(), 0);
        x.pass(1);
        CHECKS.same("day() behind pass(1)", x.day(), 1);
        x.pass(60);
        CHECKS.same("day() behind pass(60)", x.day(), 61);
        CHECKS.thrown("pass(61)", IllegalArgumentException.class, () -> x.pass(61));
        CHECKS.same("day() behind a refused one", x.day(), 61);
    }

    private static void persons() {
        CHECKS.sentence("Promise 11", "Returns how many persons there are.");
        for (int count = 0; count <= 6; count++) {
            CHECKS.same("persons() of " + count, Ledgers.ofPersons(count).persons(), count);
        }
        ApologyLedger x = Ledgers.ofPersons(6);
        CHECKS.thrown("addPerson(0)", IllegalStateException.class, () -> x.addPerson(0));
        CHECKS.same("persons() behind a refused one", x.persons(), 6);
    }

    private static void slights() {
        CHECKS.sentence("Promise 12", "Returns how many slights there are.");
        for (int count = 0; count <= 20; count++) {
            CHECKS.same("slights() of " + count, Ledgers.ofSlights(count).slights(), count);
        }
        ApologyLedger x = Ledgers.full();
        CHECKS.thrown("slight(0, 1, 1)", IllegalStateException.class, () -> x.slight(0, 1, 1));
        CHECKS.same("slights() behind a refused one", x.slights(), 20);
        x.pass(60);
        CHECKS.same("slights(), all forgotten", x.slights(), 20);
        CHECKS.same("slights() of each state", Ledgers.ofEachState().slights(), 5);
    }

    private static void inHall() {
        CHECKS.sentence("Promise 13", "Returns how many persons are in the hall.");
        CHECKS.same("inHall() of nobody", new ApologyLedger().inHall(), 0);
        CHECKS.same("inHall() of six, nobody in", Ledgers.ofPersons(6).inHall(), 0);
        ApologyLedger x = Ledgers.fullHall();
        CHECKS.same("inHall() of six, all in", x.inHall(), 6);
        x.enter(0);
        CHECKS.same("inHall(), the first has left", x.inHall(), 5);
        x.enter(5);
        CHECKS.same("inHall(), the last has left", x.inHall(), 4);
    }

    private static void scorned() {
        CHECKS.sentence("Promise 14", "Returns how many apologies were scorned in all.");
        ApologyLedger x = Ledgers.withPrides(0, 5);
        CHECKS.same("scorned() at first", x.scorned(), 0);
        x.slight(0, 1, 9);
        CHECKS.thrown("apologize(0, 0)", IllegalArgumentException.class, () -> x.apologize(0, 0));
        CHECKS.same("scorned() behind a refused one", x.scorned(), 0);
        x.apologize(0, 4);
        CHECKS.same("scorned() behind one scorned", x.scorned(), 1);
        x.apologize(0, 5);
        CHECKS.same("scorned() behind one heard", x.scorned(), 1);
        x.mention(0);
        CHECKS.same("scorned() behind a mention", x.scorned(), 1);
        x.apologize(0, 20);
        CHECKS.thrown("apologize(0, 1), settled", IllegalStateException.class, () -> x.apologize(0, 1));
        CHECKS.same("scorned(), the slight settled", x.scorned(), 1);
    }

    private static void isInHallNobody() {
        CHECKS.sentence("Promise 15", "Throws `IndexOutOfBoundsException` if there is no such person");
        EDGES.persons("isInHall", ApologyLedger::isInHall, 0, 1, 3, 6);
        CHECKS.same("isInHall(5) of a full hall", Ledgers.fullHall().isInHall(5), true);
    }

    private static void prideOfNobody() {
        CHECKS.sentence("Promise 16", "Throws `IndexOutOfBoundsException` if there is no such person");
        EDGES.persons("prideOf", ApologyLedger::prideOf, 0, 1, 3, 6);
        CHECKS.same("prideOf(5) of six", Ledgers.withPrides(1, 2, 3, 4, 5, 9).prideOf(5), 9);
    }

    private static void borneByNoneToAll() {
        CHECKS.sentence("Promise 17", "Returns the weight of all open slights against it.");
        CHECKS.same("borneBy(0) without slights", Ledgers.ofThree().borneBy(0), 0);
        ApologyLedger most = Ledgers.allAt99();
        CHECKS.same("borneBy(1), twenty of 99", most.borneBy(1), 20 * 99);
        CHECKS.same("borneBy(0), none of twenty", most.borneBy(0), 0);
        CHECKS.same("borneBy(5), none of twenty", most.borneBy(5), 0);
        int[] due = {6 + 12 + 18, 1 + 7 + 13 + 19, 2 + 8 + 14 + 20, 3 + 9 + 15, 4 + 10 + 16, 5 + 11 + 17};
        ApologyLedger full = Ledgers.full();
        for (int person = 0; person < 6; person++) {
            CHECKS.same("borneBy(" + person + ") of twenty", full.borneBy(person), due[person]);
        }
    }

    private static void borneByOpenOnes() {
        CHECKS.sentence("Promise 17", "all open slights against it.");
        ApologyLedger x = Ledgers.ofEachState();
        CHECKS.same("borneBy(0), one forgotten and one open", x.borneBy(0), 13);
        CHECKS.same("borneBy(1), one open", x.borneBy(1), 34);
        CHECKS.same("borneBy(2), one settled and one set off", x.borneBy(2), 0);
    }

    private static void borneByNobody() {
        CHECKS.sentence("Promise 17", "Throws `IndexOutOfBoundsException` if there is no such person");
        EDGES.persons("borneBy", ApologyLedger::borneBy, 0, 1, 3, 6);
    }

    private static void owedByNoneToAll() {
        CHECKS.sentence("Promise 18", "Returns the weight of all open slights of which it is the offender.");
        CHECKS.same("owedBy(0) without slights", Ledgers.ofThree().owedBy(0), 0);
        ApologyLedger most = Ledgers.allAt99();
        CHECKS.same("owedBy(0), twenty of 99", most.owedBy(0), 20 * 99);
        CHECKS.same("owedBy(1), none of twenty", most.owedBy(1), 0);
        int[] due = {1 + 7 + 13 + 19, 2 + 8 + 14 + 20, 3 + 9 + 15, 4 + 10 + 16, 5 + 11 + 17, 6 + 12 + 18};
        ApologyLedger full = Ledgers.full();
        for (int person = 0; person < 6; person++) {
            CHECKS.same("owedBy(" + person + ") of twenty", full.owedBy(person), due[person]);
        }
    }

    private static void owedByOpenOnes() {
        CHECKS.sentence("Promise 18", "all open slights of which it is the offender.");
        ApologyLedger x = Ledgers.ofEachState();
        CHECKS.same("owedBy(0), one set off and one open", x.owedBy(0), 34);
        CHECKS.same("owedBy(1), one settled", x.owedBy(1), 0);
        CHECKS.same("owedBy(2), one forgotten and one open", x.owedBy(2), 13);
    }

    private static void owedByNobody() {
        CHECKS.sentence("Promise 18", "Throws `IndexOutOfBoundsException` if there is no such person");
        EDGES.persons("owedBy", ApologyLedger::owedBy, 0, 1, 3, 6);
    }

    private static void balanceOfTheSame() {
        CHECKS.sentence("Promise 19", "another one, or the same");
        ApologyLedger full = Ledgers.full();
        for (int person = 0; person < 6; person++) {
            CHECKS.same("balance(" + person + ", " + person + ")", full.balance(person, person), 0);
        }
        CHECKS.same("balance(0, 0) of one person", Ledgers.ofPersons(1).balance(0, 0), 0);
    }

    private static void balanceNoneToAll() {
        CHECKS.sentence("Promise 19", "Returns the weight of all open slights of the first one against the other one, less that of those of the other one against the first one.");
        CHECKS.same("balance(0, 1) without slights", Ledgers.ofThree().balance(0, 1), 0);
        ApologyLedger most = Ledgers.allAt99();
        CHECKS.same("balance(0, 1), twenty of 99", most.balance(0, 1), 20 * 99);
        CHECKS.same("balance(1, 0), twenty of 99", most.balance(1, 0), -20 * 99);
        CHECKS.same("balance(0, 2), none of twenty", most.balance(0, 2), 0);
        ApologyLedger both = Ledgers.ofSlights(20);
        CHECKS.same("balance(0, 1), ten and ten", both.balance(0, 1), 100 - 110);
        CHECKS.same("balance(1, 0), ten and ten", both.balance(1, 0), 110 - 100);
        both.setOff(18, 19);
        CHECKS.same("balance(0, 1), two set off", both.balance(0, 1), 100 - 110);
        both.apologize(0, 1);
        CHECKS.same("balance(0, 1), one settled", both.balance(0, 1), 99 - 110);
        both.pass(30);
        CHECKS.same("balance(0, 1), all forgotten", both.balance(0, 1), 0);
    }

    private static void balanceNobody() {
        CHECKS.sentence("Promise 19", "Throws `IndexOutOfBoundsException` if there is no such person");
        EDGES.persons("one", (x, person) -> x.balance(person, 0), 0, 1, 3, 6);
        EDGES.persons("other", (x, person) -> x.balance(0, person), 0, 1, 3, 6);
        EDGES.persons("both", (x, person) -> x.balance(person, person), 0, 1, 3, 6);
    }

    private static void sorestOfSeveral() {
        CHECKS.sentence("Promise 20", "Returns the person with the greatest borneBy(), of several the smallest number;");
        CHECKS.same("sorest() of six, none slighted", Ledgers.ofPersons(6).sorest(), 0);
        CHECKS.same("sorest() of one", Ledgers.ofPersons(1).sorest(), 0);
        ApologyLedger x = Ledgers.ofPersons(6);
        x.slight(0, 5, 1);
        CHECKS.same("sorest(), the last one", x.sorest(), 5);
        x.slight(5, 4, 1);
        CHECKS.same("sorest(), the last two alike", x.sorest(), 4);
        x.slight(1, 0, 1);
        CHECKS.same("sorest(), three alike", x.sorest(), 0);
        x.mention(1);
        CHECKS.same("sorest(), one by 1 more", x.sorest(), 4);
        x.apologize(1, 2);
        CHECKS.same("sorest(), two alike", x.sorest(), 0);
        x.pass(30);
        CHECKS.same("sorest(), all forgotten", x.sorest(), 0);
        CHECKS.same("sorest() of twenty at 99", Ledgers.allAt99().sorest(), 1);
    }

    private static void sorestOfNobody() {
        CHECKS.sentence("Promise 20", "-1 without persons.");
        ApologyLedger x = new ApologyLedger();
        CHECKS.same("sorest()", x.sorest(), -1);
        x.pass(60);
        CHECKS.same("sorest() later", x.sorest(), -1);
        x.addPerson(0);
        CHECKS.same("sorest() of the first person", x.sorest(), 0);
    }
}
