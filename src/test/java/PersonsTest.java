/** Promises 10 to 20: what is told of the day and of persons. */
public final class PersonsTest {
    private static final Checks CHECKS = new Checks();

    private PersonsTest() {
    }

    public static void main(String[] args) {
        day();
        persons();
        slights();
        inHall();
        scorned();
        isInHall();
        prideOf();
        borneBy();
        owedBy();
        balance();
        sorest();
        theFullLedger();
        CHECKS.end();
    }

    private static void day() {
        ApologyLedger x = new ApologyLedger();
        CHECKS.same("day()", x.day(), 0);
        x.pass(7);
        CHECKS.same("day()", x.day(), 7);
        for (int i = 0; i < 100; i++) {
            x.pass(60);
        }
        CHECKS.same("day() behind long", x.day(), 6007);
    }

    private static void persons() {
        ApologyLedger x = new ApologyLedger();
        CHECKS.same("persons()", x.persons(), 0);
        for (int i = 1; i <= 6; i++) {
            x.addPerson(i);
            CHECKS.same("persons()", x.persons(), i);
        }
    }

    private static void slights() {
        ApologyLedger x = Ledgers.ofEachState();
        CHECKS.same("slights(), open or not", x.slights(), 5);
        x.slight(0, 1, 1);
        CHECKS.same("slights()", x.slights(), 6);
    }

    private static void inHall() {
        ApologyLedger x = Ledgers.ofThree();
        CHECKS.same("inHall(), not at first", x.inHall(), 0);
        x.enter(0);
        x.enter(2);
        CHECKS.same("inHall()", x.inHall(), 2);
        x.enter(0);
        CHECKS.same("inHall(), one has left", x.inHall(), 1);
        CHECKS.same("inHall() of all", Ledgers.fullHall().inHall(), 6);
    }

    private static void scorned() {
        ApologyLedger x = Ledgers.withPrides(0, 5);
        x.slight(0, 1, 20);
        x.apologize(0, 4);
        x.apologize(0, 5);
        CHECKS.same("scorned()", x.scorned(), 1);
        x.apologize(0, 1);
        CHECKS.same("scorned()", x.scorned(), 2);
        x.mention(0);
        x.apologize(0, 20);
        x.pass(60);
        CHECKS.same("scorned(), in all", x.scorned(), 2);
    }

    private static void isInHall() {
        ApologyLedger x = Ledgers.ofThree();
        x.enter(2);
        CHECKS.same("isInHall(1)", x.isInHall(1), false);
        CHECKS.same("isInHall(2)", x.isInHall(2), true);
    }

    private static void prideOf() {
        ApologyLedger x = Ledgers.withPrides(9, 0, 4);
        CHECKS.same("prideOf(0)", x.prideOf(0), 9);
        CHECKS.same("prideOf(1)", x.prideOf(1), 0);
        CHECKS.same("prideOf(2)", x.prideOf(2), 4);
    }

    /** Weights 1, 2, 4 and 8, so that each sum tells which slights are in it. */
    private static ApologyLedger ofFourSlights() {
        ApologyLedger x = Ledgers.ofThree();
        x.slight(0, 1, 1);
        x.slight(2, 1, 2);
        x.slight(1, 2, 4);
        x.slight(0, 1, 8);
        return x;
    }

    private static void borneBy() {
        ApologyLedger x = ofFourSlights();
        CHECKS.same("borneBy(0)", x.borneBy(0), 0);
        CHECKS.same("borneBy(1)", x.borneBy(1), 11);
        CHECKS.same("borneBy(2)", x.borneBy(2), 4);
        x.apologize(3, 8);
        x.setOff(1, 2);
        CHECKS.same("borneBy(1), two no more open", x.borneBy(1), 1);
        CHECKS.same("borneBy(2)", x.borneBy(2), 2);
    }

    private static void owedBy() {
        ApologyLedger x = ofFourSlights();
        CHECKS.same("owedBy(0)", x.owedBy(0), 9);
        CHECKS.same("owedBy(1)", x.owedBy(1), 4);
        CHECKS.same("owedBy(2)", x.owedBy(2), 2);
        x.apologize(0, 1);
        x.setOff(1, 2);
        CHECKS.same("owedBy(0), one no more open", x.owedBy(0), 8);
        CHECKS.same("owedBy(1)", x.owedBy(1), 2);
        CHECKS.same("owedBy(2), none open", x.owedBy(2), 0);
    }

    private static void balance() {
        ApologyLedger x = ofFourSlights();
        x.slight(1, 0, 16);
        CHECKS.same("balance(0, 1)", x.balance(0, 1), 9 - 16);
        CHECKS.same("balance(1, 0)", x.balance(1, 0), 16 - 9);
        CHECKS.same("balance(1, 2)", x.balance(1, 2), 4 - 2);
        CHECKS.same("balance(0, 2)", x.balance(0, 2), 0);
        CHECKS.same("balance(1, 1)", x.balance(1, 1), 0);
        x.apologize(4, 16);
        CHECKS.same("balance(0, 1), one settled", x.balance(0, 1), 9);
    }

    private static void sorest() {
        CHECKS.same("sorest() without persons", new ApologyLedger().sorest(), -1);
        CHECKS.same("sorest() without slights", Ledgers.ofThree().sorest(), 0);
        ApologyLedger x = ofFourSlights();
        CHECKS.same("sorest()", x.sorest(), 1);
        x.slight(0, 2, 7);
        CHECKS.same("sorest(), two alike", x.sorest(), 1);
        x.mention(4);
        CHECKS.same("sorest()", x.sorest(), 2);
        x.pass(60);
        CHECKS.same("sorest() with all forgotten", x.sorest(), 0);
    }

    /** Every place is taken: a look one place too far would leave the rows. */
    private static void theFullLedger() {
        ApologyLedger x = Ledgers.fullHall();
        for (int i = 0; i < 20; i++) {
            x.slight(i % 6, (i + 1) % 6, 1 + i);
        }
        CHECKS.same("inHall() of six", x.inHall(), 6);
        CHECKS.same("borneBy(0) of twenty", x.borneBy(0), 6 + 12 + 18);
        CHECKS.same("owedBy(1) of twenty", x.owedBy(1), 2 + 8 + 14 + 20);
        CHECKS.same("balance(1, 2) of twenty", x.balance(1, 2), 2 + 8 + 14 + 20);
        CHECKS.same("sorest() of six", x.sorest(), 2);
        CHECKS.same("heaviest() of twenty", x.heaviest(), 19);
        CHECKS.same("pairsToSetOff() of twenty", x.pairsToSetOff(), 0);
        CHECKS.same("inState(0) of twenty", x.inState(0), 20);
        CHECKS.same("witnessesFor(19) of six", x.witnessesFor(19), 4);
        CHECKS.same("borneIn(0, 5) of twenty", x.borneIn(0, 5), 7 + 13 + 19);
        CHECKS.same("worstToKeep(1) of twenty", x.worstToKeep(1), 19);
        CHECKS.sameDouble("meanWeight() of twenty", x.meanWeight(), 10.5);
        CHECKS.same("pass(30) of twenty", x.pass(30), 20);
    }
}
