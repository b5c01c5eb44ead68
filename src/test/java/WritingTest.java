/** Promises 1 to 9: a new object, and what there is to write. */
public final class WritingTest {
    private static final Checks CHECKS = new Checks();

    private WritingTest() {
    }

    public static void main(String[] args) {
        aNewObject();
        addPerson();
        enter();
        slight();
        mention();
        apologize();
        apologizeWithWitnesses();
        apologizeScorned();
        apologizeIsNotSpeaking();
        setOff();
        setPride();
        pass();
        passGrowth();
        passForgets();
        CHECKS.end();
    }

    private static void aNewObject() {
        ApologyLedger x = new ApologyLedger();
        CHECKS.same("new: day()", x.day(), 0);
        CHECKS.same("new: persons()", x.persons(), 0);
        CHECKS.same("new: slights()", x.slights(), 0);
        CHECKS.same("new: inHall()", x.inHall(), 0);
        CHECKS.same("new: scorned()", x.scorned(), 0);
        for (int state = 0; state <= 3; state++) {
            CHECKS.same("new: inState()", x.inState(state), 0);
        }
        ApologyLedger other = new ApologyLedger();
        x.addPerson(1);
        CHECKS.same("another object's persons()", other.persons(), 0);
    }

    private static void addPerson() {
        ApologyLedger x = new ApologyLedger();
        int[] prides = {0, 9, 3, 5, 1, 8};
        for (int i = 0; i < 6; i++) {
            CHECKS.same("addPerson()", x.addPerson(prides[i]), i);
            CHECKS.same("persons() behind addPerson()", x.persons(), i + 1);
        }
        for (int i = 0; i < 6; i++) {
            CHECKS.same("prideOf() behind addPerson()", x.prideOf(i), prides[i]);
            CHECKS.same("isInHall() behind addPerson()", x.isInHall(i), false);
        }
    }

    private static void enter() {
        ApologyLedger x = Ledgers.ofThree();
        CHECKS.same("enter(1)", x.enter(1), true);
        CHECKS.same("isInHall(1)", x.isInHall(1), true);
        CHECKS.same("isInHall(0)", x.isInHall(0), false);
        CHECKS.same("enter(1) again", x.enter(1), false);
        CHECKS.same("isInHall(1) again", x.isInHall(1), false);
        CHECKS.same("enter(1) a third time", x.enter(1), true);
    }

    private static void slight() {
        ApologyLedger x = Ledgers.ofThree();
        x.pass(3);
        CHECKS.same("slight(0, 1, 1)", x.slight(0, 1, 1), 0);
        CHECKS.same("slight(2, 1, 20)", x.slight(2, 1, 20), 1);
        CHECKS.same("offenderOf(1)", x.offenderOf(1), 2);
        CHECKS.same("offendedOf(1)", x.offendedOf(1), 1);
        CHECKS.same("weightOf(0)", x.weightOf(0), 1);
        CHECKS.same("weightOf(1)", x.weightOf(1), 20);
        CHECKS.same("stateOf(1)", x.stateOf(1), Ledgers.OPEN);
        CHECKS.same("borneFor(1)", x.borneFor(1), 0);
        CHECKS.same("quietFor(1)", x.quietFor(1), 0);
        for (int number = 2; number < 20; number++) {
            CHECKS.same("slight(1, 0, 4)", x.slight(1, 0, 4), number);
        }
        CHECKS.same("slights()", x.slights(), 20);
    }

    private static void mention() {
        ApologyLedger x = Ledgers.ofThree();
        x.slight(0, 1, 20);
        x.slight(1, 2, 4);
        x.pass(4);
        CHECKS.same("mention(0)", x.mention(0), 21);
        CHECKS.same("weightOf(0)", x.weightOf(0), 21);
        CHECKS.same("quietFor(0)", x.quietFor(0), 0);
        CHECKS.same("borneFor(0)", x.borneFor(0), 4);
        CHECKS.same("weightOf(1), not spoken of", x.weightOf(1), 4);
        CHECKS.same("quietFor(1), not spoken of", x.quietFor(1), 4);
        Ledgers.mentionTimes(x, 0, 77);
        CHECKS.same("mention(0) at 98", x.mention(0), 99);
        x.pass(2);
        CHECKS.same("mention(0) at 99", x.mention(0), 99);
        CHECKS.same("quietFor(0) at 99", x.quietFor(0), 0);
    }

    private static void apologize() {
        ApologyLedger x = Ledgers.withPrides(9, 4, 0);
        x.slight(0, 1, 20);
        CHECKS.same("apologize(0, 5), a fourth part", x.apologize(0, 5), 15);
        CHECKS.same("apologize(0, 4), the pride", x.apologize(0, 4), 11);
        CHECKS.same("apologize(0, 10)", x.apologize(0, 10), 1);
        CHECKS.same("stateOf(0) at 1", x.stateOf(0), Ledgers.OPEN);
        CHECKS.same("apologize(0, 4), more than the weight", x.apologize(0, 4), 0);
        CHECKS.same("weightOf(0)", x.weightOf(0), 0);
        CHECKS.same("stateOf(0)", x.stateOf(0), Ledgers.SETTLED);
        CHECKS.same("scorned()", x.scorned(), 0);
        x.slight(0, 2, 20);
        CHECKS.same("apologize(1, 20), just the weight", x.apologize(1, 20), 0);
        CHECKS.same("stateOf(1)", x.stateOf(1), Ledgers.SETTLED);
    }

    private static void apologizeWithWitnesses() {
        ApologyLedger x = Ledgers.fullHall();
        x.slight(0, 1, 20);
        CHECKS.same("apologize(0, 1) with 4 witnesses", x.apologize(0, 1), 11);
        x.enter(5);
        x.enter(0);
        CHECKS.same("apologize(0, 1) with 3 witnesses", x.apologize(0, 1), 4);
        x.setPride(1, 7);
        CHECKS.same("apologize(0, 1) worth the pride", x.apologize(0, 1), 0);
        x.slight(0, 1, 20);
        x.setPride(1, 8);
        CHECKS.same("apologize(1, 1) worth less than the pride", x.apologize(1, 1), 21);
    }

    private static void apologizeScorned() {
        ApologyLedger x = Ledgers.withPrides(0, 3, 0);
        x.slight(0, 1, 8);
        x.slight(0, 2, 20);
        x.pass(2);
        CHECKS.same("apologize(0, 2), below the pride", x.apologize(0, 2), 9);
        CHECKS.same("weightOf(0)", x.weightOf(0), 9);
        CHECKS.same("quietFor(0)", x.quietFor(0), 0);
        CHECKS.same("stateOf(0)", x.stateOf(0), Ledgers.OPEN);
        CHECKS.same("scorned()", x.scorned(), 1);
        Ledgers.mentionTimes(x, 1, 3);
        CHECKS.same("apologize(1, 4) at 23, below a fourth part", x.apologize(1, 4), 24);
        CHECKS.same("apologize(1, 5) at 24, below a fourth part", x.apologize(1, 5), 25);
        CHECKS.same("apologize(1, 6) at 25, a fourth part, cut", x.apologize(1, 6), 19);
        CHECKS.same("scorned()", x.scorned(), 3);
        Ledgers.mentionTimes(x, 1, 80);
        CHECKS.same("apologize(1, 20) at 99", x.apologize(1, 20), 99);
        CHECKS.same("scorned()", x.scorned(), 4);
    }

    private static void apologizeIsNotSpeaking() {
        ApologyLedger x = Ledgers.ofThree();
        x.slight(0, 1, 20);
        x.pass(7);
        CHECKS.same("apologize(0, 10)", x.apologize(0, 10), 12);
        CHECKS.same("quietFor(0) behind an apology", x.quietFor(0), 7);
        x.apologize(0, 12);
        CHECKS.same("quietFor(0) when settled", x.quietFor(0), 7);
        CHECKS.same("borneFor(0) when settled", x.borneFor(0), 7);
    }

    private static void setOff() {
        ApologyLedger x = Ledgers.ofThree();
        x.slight(0, 1, 10);
        x.slight(1, 0, 7);
        x.slight(1, 0, 3);
        x.pass(3);
        CHECKS.same("setOff(0, 1)", x.setOff(0, 1), 7);
        CHECKS.same("weightOf(0)", x.weightOf(0), 3);
        CHECKS.same("stateOf(0)", x.stateOf(0), Ledgers.OPEN);
        CHECKS.same("quietFor(0)", x.quietFor(0), 3);
        CHECKS.same("weightOf(1)", x.weightOf(1), 0);
        CHECKS.same("stateOf(1)", x.stateOf(1), Ledgers.SET_OFF);
        CHECKS.same("quietFor(1)", x.quietFor(1), 3);
        CHECKS.same("setOff(2, 0), of the same weight", x.setOff(2, 0), 3);
        CHECKS.same("stateOf(0)", x.stateOf(0), Ledgers.SET_OFF);
        CHECKS.same("stateOf(2)", x.stateOf(2), Ledgers.SET_OFF);
        x.slight(2, 0, 4);
        x.slight(0, 2, 9);
        CHECKS.same("setOff(3, 4), the smaller first", x.setOff(3, 4), 4);
        CHECKS.same("weightOf(3)", x.weightOf(3), 0);
        CHECKS.same("stateOf(3)", x.stateOf(3), Ledgers.SET_OFF);
        CHECKS.same("weightOf(4)", x.weightOf(4), 5);
        CHECKS.same("stateOf(4)", x.stateOf(4), Ledgers.OPEN);
    }

    private static void setPride() {
        ApologyLedger x = Ledgers.withPrides(4, 6);
        CHECKS.same("setPride(1, 9)", x.setPride(1, 9), 6);
        CHECKS.same("setPride(1, 0)", x.setPride(1, 0), 9);
        CHECKS.same("prideOf(1)", x.prideOf(1), 0);
        CHECKS.same("prideOf(0)", x.prideOf(0), 4);
    }

    private static void pass() {
        ApologyLedger x = Ledgers.ofThree();
        CHECKS.same("pass(1)", x.pass(1), 0);
        CHECKS.same("day()", x.day(), 1);
        CHECKS.same("pass(60)", x.pass(60), 0);
        CHECKS.same("day()", x.day(), 61);
        x.slight(0, 1, 5);
        x.pass(3);
        CHECKS.same("borneFor(0)", x.borneFor(0), 3);
        CHECKS.same("quietFor(0)", x.quietFor(0), 3);
    }

    private static void passGrowth() {
        ApologyLedger x = Ledgers.ofThree();
        x.slight(0, 1, 9);
        x.slight(0, 1, 20);
        x.pass(4);
        CHECKS.same("weightOf(0) behind 4 days", x.weightOf(0), 9);
        x.slight(1, 0, 20);
        x.pass(1);
        CHECKS.same("weightOf(0), 1 more at least", x.weightOf(0), 10);
        CHECKS.same("weightOf(1), a tenth part more", x.weightOf(1), 22);
        CHECKS.same("weightOf(2), borne for one day", x.weightOf(2), 20);
        x.pass(5);
        CHECKS.same("weightOf(0) at 10", x.weightOf(0), 11);
        CHECKS.same("weightOf(1), a tenth part, cut", x.weightOf(1), 24);
        CHECKS.same("weightOf(2)", x.weightOf(2), 22);
        Ledgers.mentionTimes(x, 1, 69);
        x.mention(0);
        x.pass(4);
        CHECKS.same("weightOf(1) at 93", x.weightOf(1), 93);
        x.pass(1);
        CHECKS.same("weightOf(1), 99 at the most", x.weightOf(1), 99);
        CHECKS.same("weightOf(0), by days borne, not quiet ones", x.weightOf(0), 13);
        x.pass(5);
        CHECKS.same("weightOf(1) at 99", x.weightOf(1), 99);
    }

    private static void passForgets() {
        ApologyLedger x = Ledgers.ofThree();
        x.slight(0, 1, 9);
        x.pass(10);
        x.slight(1, 2, 9);
        x.slight(2, 0, 9);
        x.pass(10);
        x.mention(2);
        x.apologize(1, 2);
        CHECKS.same("pass(9)", x.pass(9), 0);
        CHECKS.same("stateOf(0), quiet for 29 days", x.stateOf(0), Ledgers.OPEN);
        CHECKS.same("pass(1)", x.pass(1), 1);
        CHECKS.same("stateOf(0), quiet for 30 days", x.stateOf(0), Ledgers.FORGOTTEN);
        CHECKS.same("weightOf(0), forgotten", x.weightOf(0), 0);
        CHECKS.same("borneFor(0), forgotten", x.borneFor(0), 30);
        CHECKS.same("quietFor(0), forgotten", x.quietFor(0), 30);
        CHECKS.same("pass(20)", x.pass(20), 2);
        CHECKS.same("borneFor(0), forgotten before", x.borneFor(0), 30);
        CHECKS.same("quietFor(0), forgotten before", x.quietFor(0), 30);
        CHECKS.same("borneFor(2), spoken of once", x.borneFor(2), 40);
        CHECKS.same("pass(60), with nothing open", x.pass(60), 0);
        CHECKS.same("day()", x.day(), 110);
        settledOnesAreNotForgotten();
    }

    private static void settledOnesAreNotForgotten() {
        ApologyLedger x = Ledgers.ofEachState();
        CHECKS.same("pass(60) of each state", x.pass(60), 2);
        CHECKS.same("stateOf(1), settled", x.stateOf(1), Ledgers.SETTLED);
        CHECKS.same("stateOf(3), set off", x.stateOf(3), Ledgers.SET_OFF);
        CHECKS.same("borneFor(1), settled", x.borneFor(1), 0);
        CHECKS.same("quietFor(3), set off", x.quietFor(3), 0);
        CHECKS.same("weightOf(1), settled", x.weightOf(1), 0);
        CHECKS.same("weightOf(3), set off", x.weightOf(3), 0);
    }

}
