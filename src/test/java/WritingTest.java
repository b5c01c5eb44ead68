/** Promises 1 to 9: a new object, and what there is to write. */
public final class WritingTest {
    private static final Checks CHECKS = new Checks();

    private WritingTest() {
    }

    public static void main(String[] args) {
        aNewObject();
        addPerson();
        addPersonRefusals();
        enter();
        slight();
        slightRefusals();
        mention();
        mentionRefusals();
        apologize();
        apologizeWithWitnesses();
        apologizeScorned();
        apologizeIsNotSpeaking();
        apologizeRefusals();
        setOff();
        setOffRefusals();
        setPride();
        pass();
        passGrowth();
        passForgets();
        passRefusals();
        CHECKS.end();
    }

    private static void aNewObject() {
        ApologyLedger x = new ApologyLedger();
        CHECKS.same("new: day()", x.day(), 0);
        CHECKS.same("new: persons()", x.persons(), 0);
        CHECKS.same("new: slights()", x.slights(), 0);
        CHECKS.same("new: inHall()", x.inHall(), 0);
        CHECKS.same("new: scorned()", x.scorned(), 0);
        for (int state = 0; state <= 3; state++) {
            CHECKS.same("new: inState()", x.inState(state), 0);
        }
        ApologyLedger other = new ApologyLedger();
        x.addPerson(1);
        CHECKS.same("another object's persons()", other.persons(), 0);
    }

    private static void addPerson() {
        ApologyLedger x = new ApologyLedger();
        int[] prides = {0, 9, 3, 5, 1, 8};
        for (int i = 0; i < 6; i++) {
            CHECKS.same("addPerson()", x.addPerson(prides[i]), i);
            CHECKS.same("persons() behind addPerson()", x.persons(), i + 1);
        }
        for (int i = 0; i < 6; i++) {
            CHECKS.same("prideOf() behind addPerson()", x.prideOf(i), prides[i]);
            CHECKS.same("isInHall() behind addPerson()", x.isInHall(i), false);
        }
    }

    private static void addPersonRefusals() {
        ApologyLedger x = Ledgers.withPrides(0, 1, 2, 3, 4);
        for (int pride : new int[] {-1, 10, Integer.MIN_VALUE, Integer.MAX_VALUE}) {
            CHECKS.badArgument("addPerson(" + pride + ")", x, () -> x.addPerson(pride));
        }
        x.addPerson(5);
        CHECKS.badState("a seventh addPerson(0)", x, () -> x.addPerson(0));
        CHECKS.badState("a seventh addPerson(9)", x, () -> x.addPerson(9));
        CHECKS.badArgument("a seventh addPerson(10)", x, () -> x.addPerson(10));
        CHECKS.badArgument("a seventh addPerson(-1)", x, () -> x.addPerson(-1));
    }

    private static void enter() {
        ApologyLedger x = Ledgers.ofThree();
        CHECKS.same("enter(1)", x.enter(1), true);
        CHECKS.same("isInHall(1)", x.isInHall(1), true);
        CHECKS.same("isInHall(0)", x.isInHall(0), false);
        CHECKS.same("enter(1) again", x.enter(1), false);
        CHECKS.same("isInHall(1) again", x.isInHall(1), false);
        CHECKS.same("enter(1) a third time", x.enter(1), true);
        CHECKS.noSuch("enter(3)", x, () -> x.enter(3));
        for (int nobody : Ledgers.NOBODY) {
            CHECKS.noSuch("enter(" + nobody + ")", x, () -> x.enter(nobody));
        }
    }

    private static void slight() {
        ApologyLedger x = Ledgers.ofThree();
        x.pass(3);
        CHECKS.same("slight(0, 1, 1)", x.slight(0, 1, 1), 0);
        CHECKS.same("slight(2, 1, 20)", x.slight(2, 1, 20), 1);
        CHECKS.same("offenderOf(1)", x.offenderOf(1), 2);
        CHECKS.same("offendedOf(1)", x.offendedOf(1), 1);
        CHECKS.same("weightOf(0)", x.weightOf(0), 1);
        CHECKS.same("weightOf(1)", x.weightOf(1), 20);
        CHECKS.same("stateOf(1)", x.stateOf(1), Ledgers.OPEN);
        CHECKS.same("borneFor(1)", x.borneFor(1), 0);
        CHECKS.same("quietFor(1)", x.quietFor(1), 0);
        for (int number = 2; number < 20; number++) {
            CHECKS.same("slight(1, 0, 4)", x.slight(1, 0, 4), number);
        }
        CHECKS.same("slights()", x.slights(), 20);
    }

    private static void slightRefusals() {
        ApologyLedger x = Ledgers.ofThree();
        for (int nobody : Ledgers.NOBODY) {
            CHECKS.noSuch("slight(" + nobody + ", 0, 5)", x, () -> x.slight(nobody, 0, 5));
            CHECKS.noSuch("slight(0, " + nobody + ", 5)", x, () -> x.slight(0, nobody, 5));
            CHECKS.noSuch("slight(" + nobody + ", itself, 5)", x, () -> x.slight(nobody, nobody, 5));
            CHECKS.noSuch("slight(0, " + nobody + ", 0)", x, () -> x.slight(0, nobody, 0));
        }
        CHECKS.noSuch("slight(3, 0, 5)", x, () -> x.slight(3, 0, 5));
        CHECKS.noSuch("slight(0, 3, 5)", x, () -> x.slight(0, 3, 5));
        CHECKS.badArgument("slight(1, 1, 5)", x, () -> x.slight(1, 1, 5));
        for (int weight : new int[] {0, 21, -1, Integer.MIN_VALUE, Integer.MAX_VALUE}) {
            CHECKS.badArgument("slight(0, 1, " + weight + ")", x, () -> x.slight(0, 1, weight));
        }
        for (int i = 0; i < 20; i++) {
            x.slight(0, 1, 2);
        }
        CHECKS.badState("slight(0, 1, 2), the 21st", x, () -> x.slight(0, 1, 2));
        CHECKS.badArgument("slight(0, 0, 2), the 21st", x, () -> x.slight(0, 0, 2));
        CHECKS.badArgument("slight(0, 1, 21), the 21st", x, () -> x.slight(0, 1, 21));
        CHECKS.noSuch("slight(0, 3, 21), the 21st", x, () -> x.slight(0, 3, 21));
        x.apologize(0, 2);
        CHECKS.badState("slight(0, 1, 2) with one of 20 settled", x, () -> x.slight(0, 1, 2));
    }

    private static void mention() {
        ApologyLedger x = Ledgers.ofThree();
        x.slight(0, 1, 20);
        x.slight(1, 2, 4);
        x.pass(4);
        CHECKS.same("mention(0)", x.mention(0), 21);
        CHECKS.same("weightOf(0)", x.weightOf(0), 21);
        CHECKS.same("quietFor(0)", x.quietFor(0), 0);
        CHECKS.same("borneFor(0)", x.borneFor(0), 4);
        CHECKS.same("weightOf(1), not spoken of", x.weightOf(1), 4);
        CHECKS.same("quietFor(1), not spoken of", x.quietFor(1), 4);
        Ledgers.mentionTimes(x, 0, 77);
        CHECKS.same("mention(0) at 98", x.mention(0), 99);
        x.pass(2);
        CHECKS.same("mention(0) at 99", x.mention(0), 99);
        CHECKS.same("quietFor(0) at 99", x.quietFor(0), 0);
    }

    private static void mentionRefusals() {
        ApologyLedger x = Ledgers.ofEachState();
        for (int nothing : Ledgers.NOTHING) {
            CHECKS.noSuch("mention(" + nothing + ")", x, () -> x.mention(nothing));
        }
        CHECKS.noSuch("mention(5)", x, () -> x.mention(5));
        CHECKS.badState("mention(1), settled", x, () -> x.mention(1));
        CHECKS.badState("mention(2), forgotten", x, () -> x.mention(2));
        CHECKS.badState("mention(3), set off", x, () -> x.mention(3));
    }

    private static void apologize() {
        ApologyLedger x = Ledgers.withPrides(9, 4, 0);
        x.slight(0, 1, 20);
        CHECKS.same("apologize(0, 5), a fourth part", x.apologize(0, 5), 15);
        CHECKS.same("apologize(0, 4), the pride", x.apologize(0, 4), 11);
        CHECKS.same("apologize(0, 10)", x.apologize(0, 10), 1);
        CHECKS.same("stateOf(0) at 1", x.stateOf(0), Ledgers.OPEN);
        CHECKS.same("apologize(0, 4), more than the weight", x.apologize(0, 4), 0);
        CHECKS.same("weightOf(0)", x.weightOf(0), 0);
        CHECKS.same("stateOf(0)", x.stateOf(0), Ledgers.SETTLED);
        CHECKS.same("scorned()", x.scorned(), 0);
        x.slight(0, 2, 20);
        CHECKS.same("apologize(1, 20), just the weight", x.apologize(1, 20), 0);
        CHECKS.same("stateOf(1)", x.stateOf(1), Ledgers.SETTLED);
    }

    private static void apologizeWithWitnesses() {
        ApologyLedger x = Ledgers.fullHall();
        x.slight(0, 1, 20);
        CHECKS.same("apologize(0, 1) with 4 witnesses", x.apologize(0, 1), 11);
        x.enter(5);
        x.enter(0);
        CHECKS.same("apologize(0, 1) with 3 witnesses", x.apologize(0, 1), 4);
        x.setPride(1, 7);
        CHECKS.same("apologize(0, 1) worth the pride", x.apologize(0, 1), 0);
        x.slight(0, 1, 20);
        x.setPride(1, 8);
        CHECKS.same("apologize(1, 1) worth less than the pride", x.apologize(1, 1), 21);
    }

    private static void apologizeScorned() {
        ApologyLedger x = Ledgers.withPrides(0, 3, 0);
        x.slight(0, 1, 8);
        x.slight(0, 2, 20);
        x.pass(2);
        CHECKS.same("apologize(0, 2), below the pride", x.apologize(0, 2), 9);
        CHECKS.same("weightOf(0)", x.weightOf(0), 9);
        CHECKS.same("quietFor(0)", x.quietFor(0), 0);
        CHECKS.same("stateOf(0)", x.stateOf(0), Ledgers.OPEN);
        CHECKS.same("scorned()", x.scorned(), 1);
        Ledgers.mentionTimes(x, 1, 3);
        CHECKS.same("apologize(1, 4) at 23, below a fourth part", x.apologize(1, 4), 24);
        CHECKS.same("apologize(1, 5) at 24, below a fourth part", x.apologize(1, 5), 25);
        CHECKS.same("apologize(1, 6) at 25, a fourth part, cut", x.apologize(1, 6), 19);
        CHECKS.same("scorned()", x.scorned(), 3);
        Ledgers.mentionTimes(x, 1, 80);
        CHECKS.same("apologize(1, 20) at 99", x.apologize(1, 20), 99);
        CHECKS.same("scorned()", x.scorned(), 4);
    }

    private static void apologizeIsNotSpeaking() {
        ApologyLedger x = Ledgers.ofThree();
        x.slight(0, 1, 20);
        x.pass(7);
        CHECKS.same("apologize(0, 10)", x.apologize(0, 10), 12);
        CHECKS.same("quietFor(0) behind an apology", x.quietFor(0), 7);
        x.apologize(0, 12);
        CHECKS.same("quietFor(0) when settled", x.quietFor(0), 7);
        CHECKS.same("borneFor(0) when settled", x.borneFor(0), 7);
    }

    private static void apologizeRefusals() {
        ApologyLedger x = Ledgers.ofEachState();
        for (int nothing : Ledgers.NOTHING) {
            CHECKS.noSuch("apologize(" + nothing + ", 1)", x, () -> x.apologize(nothing, 1));
            CHECKS.noSuch("apologize(" + nothing + ", 0)", x, () -> x.apologize(nothing, 0));
        }
        CHECKS.noSuch("apologize(5, 1)", x, () -> x.apologize(5, 1));
        for (int words : new int[] {0, 21, -1, Integer.MIN_VALUE, Integer.MAX_VALUE}) {
            for (int slight = 0; slight < 4; slight++) {
                int which = slight;
                CHECKS.badArgument("apologize(" + which + ", " + words + ")", x, () -> x.apologize(which, words));
            }
        }
        CHECKS.badState("apologize(1, 1), settled", x, () -> x.apologize(1, 1));
        CHECKS.badState("apologize(2, 20), forgotten", x, () -> x.apologize(2, 20));
        CHECKS.badState("apologize(3, 1), set off", x, () -> x.apologize(3, 1));
    }

    private static void setOff() {
        ApologyLedger x = Ledgers.ofThree();
        x.slight(0, 1, 10);
        x.slight(1, 0, 7);
        x.slight(1, 0, 3);
        x.pass(3);
        CHECKS.same("setOff(0, 1)", x.setOff(0, 1), 7);
        CHECKS.same("weightOf(0)", x.weightOf(0), 3);
        CHECKS.same("stateOf(0)", x.stateOf(0), Ledgers.OPEN);
        CHECKS.same("quietFor(0)", x.quietFor(0), 3);
        CHECKS.same("weightOf(1)", x.weightOf(1), 0);
        CHECKS.same("stateOf(1)", x.stateOf(1), Ledgers.SET_OFF);
        CHECKS.same("quietFor(1)", x.quietFor(1), 3);
        CHECKS.same("setOff(2, 0), of the same weight", x.setOff(2, 0), 3);
        CHECKS.same("stateOf(0)", x.stateOf(0), Ledgers.SET_OFF);
        CHECKS.same("stateOf(2)", x.stateOf(2), Ledgers.SET_OFF);
        x.slight(2, 0, 4);
        x.slight(0, 2, 9);
        CHECKS.same("setOff(3, 4), the smaller first", x.setOff(3, 4), 4);
        CHECKS.same("weightOf(3)", x.weightOf(3), 0);
        CHECKS.same("stateOf(3)", x.stateOf(3), Ledgers.SET_OFF);
        CHECKS.same("weightOf(4)", x.weightOf(4), 5);
        CHECKS.same("stateOf(4)", x.stateOf(4), Ledgers.OPEN);
    }

    private static void setOffRefusals() {
        ApologyLedger x = Ledgers.ofEachState();
        x.slight(0, 1, 3);
        x.slight(1, 2, 3);
        x.slight(1, 0, 3);
        for (int nothing : Ledgers.NOTHING) {
            CHECKS.noSuch("setOff(" + nothing + ", 0)", x, () -> x.setOff(nothing, 0));
            CHECKS.noSuch("setOff(0, " + nothing + ")", x, () -> x.setOff(0, nothing));
            CHECKS.noSuch("setOff(1, " + nothing + "), settled", x, () -> x.setOff(1, nothing));
        }
        CHECKS.noSuch("setOff(8, 0)", x, () -> x.setOff(8, 0));
        CHECKS.noSuch("setOff(0, 8)", x, () -> x.setOff(0, 8));
        CHECKS.badState("setOff(0, 0)", x, () -> x.setOff(0, 0));
        CHECKS.badState("setOff(0, 5), the same two persons", x, () -> x.setOff(0, 5));
        CHECKS.badState("setOff(0, 6), in a chain", x, () -> x.setOff(0, 6));
        CHECKS.badState("setOff(6, 0), in a chain", x, () -> x.setOff(6, 0));
        CHECKS.badState("setOff(3, 4), the first set off", x, () -> x.setOff(3, 4));
        CHECKS.badState("setOff(4, 3), the other set off", x, () -> x.setOff(4, 3));
        x.slight(2, 1, 3);
        CHECKS.badState("setOff(1, 8), the first settled", x, () -> x.setOff(1, 8));
        CHECKS.badState("setOff(8, 1), the other settled", x, () -> x.setOff(8, 1));
        CHECKS.same("setOff(7, 0), which does", x.setOff(7, 0), 3);
    }

    private static void setPride() {
        ApologyLedger x = Ledgers.withPrides(4, 6);
        CHECKS.same("setPride(1, 9)", x.setPride(1, 9), 6);
        CHECKS.same("setPride(1, 0)", x.setPride(1, 0), 9);
        CHECKS.same("prideOf(1)", x.prideOf(1), 0);
        CHECKS.same("prideOf(0)", x.prideOf(0), 4);
        for (int pride : new int[] {-1, 10, Integer.MIN_VALUE, Integer.MAX_VALUE}) {
            CHECKS.badArgument("setPride(0, " + pride + ")", x, () -> x.setPride(0, pride));
            CHECKS.noSuch("setPride(2, " + pride + ")", x, () -> x.setPride(2, pride));
        }
        for (int nobody : Ledgers.NOBODY) {
            CHECKS.noSuch("setPride(" + nobody + ", 1)", x, () -> x.setPride(nobody, 1));
        }
    }

    private static void pass() {
        ApologyLedger x = Ledgers.ofThree();
        CHECKS.same("pass(1)", x.pass(1), 0);
        CHECKS.same("day()", x.day(), 1);
        CHECKS.same("pass(60)", x.pass(60), 0);
        CHECKS.same("day()", x.day(), 61);
        x.slight(0, 1, 5);
        x.pass(3);
        CHECKS.same("borneFor(0)", x.borneFor(0), 3);
        CHECKS.same("quietFor(0)", x.quietFor(0), 3);
    }

    private static void passGrowth() {
        ApologyLedger x = Ledgers.ofThree();
        x.slight(0, 1, 9);
        x.slight(0, 1, 20);
        x.pass(4);
        CHECKS.same("weightOf(0) behind 4 days", x.weightOf(0), 9);
        x.slight(1, 0, 20);
        x.pass(1);
        CHECKS.same("weightOf(0), 1 more at least", x.weightOf(0), 10);
        CHECKS.same("weightOf(1), a tenth part more", x.weightOf(1), 22);
        CHECKS.same("weightOf(2), borne for one day", x.weightOf(2), 20);
        x.pass(5);
        CHECKS.same("weightOf(0) at 10", x.weightOf(0), 11);
        CHECKS.same("weightOf(1), a tenth part, cut", x.weightOf(1), 24);
        CHECKS.same("weightOf(2)", x.weightOf(2), 22);
        Ledgers.mentionTimes(x, 1, 69);
        x.mention(0);
        x.pass(4);
        CHECKS.same("weightOf(1) at 93", x.weightOf(1), 93);
        x.pass(1);
        CHECKS.same("weightOf(1), 99 at the most", x.weightOf(1), 99);
        CHECKS.same("weightOf(0), by days borne, not quiet ones", x.weightOf(0), 13);
        x.pass(5);
        CHECKS.same("weightOf(1) at 99", x.weightOf(1), 99);
    }

    private static void passForgets() {
        ApologyLedger x = Ledgers.ofThree();
        x.slight(0, 1, 9);
        x.pass(10);
        x.slight(1, 2, 9);
        x.slight(2, 0, 9);
        x.pass(10);
        x.mention(2);
        x.apologize(1, 2);
        CHECKS.same("pass(9)", x.pass(9), 0);
        CHECKS.same("stateOf(0), quiet for 29 days", x.stateOf(0), Ledgers.OPEN);
        CHECKS.same("pass(1)", x.pass(1), 1);
        CHECKS.same("stateOf(0), quiet for 30 days", x.stateOf(0), Ledgers.FORGOTTEN);
        CHECKS.same("weightOf(0), forgotten", x.weightOf(0), 0);
        CHECKS.same("borneFor(0), forgotten", x.borneFor(0), 30);
        CHECKS.same("quietFor(0), forgotten", x.quietFor(0), 30);
        CHECKS.same("pass(20)", x.pass(20), 2);
        CHECKS.same("borneFor(0), forgotten before", x.borneFor(0), 30);
        CHECKS.same("quietFor(0), forgotten before", x.quietFor(0), 30);
        CHECKS.same("borneFor(2), spoken of once", x.borneFor(2), 40);
        CHECKS.same("pass(60), with nothing open", x.pass(60), 0);
        CHECKS.same("day()", x.day(), 110);
        settledOnesAreNotForgotten();
    }

    private static void settledOnesAreNotForgotten() {
        ApologyLedger x = Ledgers.ofEachState();
        CHECKS.same("pass(60) of each state", x.pass(60), 2);
        CHECKS.same("stateOf(1), settled", x.stateOf(1), Ledgers.SETTLED);
        CHECKS.same("stateOf(3), set off", x.stateOf(3), Ledgers.SET_OFF);
        CHECKS.same("borneFor(1), settled", x.borneFor(1), 0);
        CHECKS.same("quietFor(3), set off", x.quietFor(3), 0);
        CHECKS.same("weightOf(1), settled", x.weightOf(1), 0);
        CHECKS.same("weightOf(3), set off", x.weightOf(3), 0);
    }

    private static void passRefusals() {
        ApologyLedger x = Ledgers.ofEachState();
        for (int days : new int[] {0, 61, -1, Integer.MIN_VALUE, Integer.MAX_VALUE}) {
            CHECKS.badArgument("pass(" + days + ")", x, () -> x.pass(days));
        }
    }
}
