/** Promises 21 to 30: what is told of slights. */
public final class SlightsTest {
    private static final Checks CHECKS = new Checks();

    private SlightsTest() {
    }

    public static void main(String[] args) {
        offenderOf();
        offendedOf();
        weightOf();
        stateOf();
        borneFor();
        quietFor();
        witnessesFor();
        inState();
        heaviest();
        pairsToSetOff();
        CHECKS.end();
    }

    private static void answers(String name, int slight, int got, int... due) {
        CHECKS.same(name + "(" + slight + ")", got, due[slight]);
    }

    private static void offenderOf() {
        ApologyLedger x = Ledgers.ofEachState();
        for (int slight = 0; slight < 5; slight++) {
            answers("offenderOf", slight, x.offenderOf(slight), 0, 1, 2, 0, 2);
        }
    }

    private static void offendedOf() {
        ApologyLedger x = Ledgers.ofEachState();
        for (int slight = 0; slight < 5; slight++) {
            answers("offendedOf", slight, x.offendedOf(slight), 1, 2, 0, 2, 0);
        }
    }

    private static void weightOf() {
        ApologyLedger x = Ledgers.ofEachState();
        // 20, 22, 24, 26, 28, 30, spoken of at 30, then 34; and 6 to 12 likewise.
        for (int slight = 0; slight < 5; slight++) {
            answers("weightOf", slight, x.weightOf(slight), 34, 0, 0, 0, 13);
        }
    }

    private static void stateOf() {
        ApologyLedger x = Ledgers.ofEachState();
        for (int slight = 0; slight < 5; slight++) {
            answers("stateOf", slight, x.stateOf(slight), 0, 1, 2, 3, 0);
        }
    }

    private static void borneFor() {
        ApologyLedger x = Ledgers.ofEachState();
        for (int slight = 0; slight < 5; slight++) {
            answers("borneFor", slight, x.borneFor(slight), 30, 0, 30, 0, 30);
        }
        x.pass(4);
        CHECKS.same("borneFor(0), open", x.borneFor(0), 34);
        CHECKS.same("borneFor(2), forgotten", x.borneFor(2), 30);
    }

    private static void quietFor() {
        ApologyLedger x = Ledgers.ofEachState();
        for (int slight = 0; slight < 5; slight++) {
            answers("quietFor", slight, x.quietFor(slight), 1, 0, 30, 0, 1);
        }
        x.pass(4);
        CHECKS.same("quietFor(0), open", x.quietFor(0), 5);
        CHECKS.same("quietFor(2), forgotten", x.quietFor(2), 30);
    }

    private static void witnessesFor() {
        ApologyLedger x = Ledgers.ofEachState();
        x.addPerson(1);
        CHECKS.same("witnessesFor(0), nobody in the hall", x.witnessesFor(0), 0);
        x.enter(0);
        x.enter(1);
        CHECKS.same("witnessesFor(0), the two in the hall", x.witnessesFor(0), 0);
        CHECKS.same("witnessesFor(1), settled", x.witnessesFor(1), 1);
        x.enter(2);
        x.enter(3);
        CHECKS.same("witnessesFor(0)", x.witnessesFor(0), 2);
        x.enter(0);
        CHECKS.same("witnessesFor(0), the offender out", x.witnessesFor(0), 2);
        CHECKS.same("witnessesFor(2), forgotten", x.witnessesFor(2), 2);
        CHECKS.same("witnessesFor(3), set off", x.witnessesFor(3), 2);
        ApologyLedger full = Ledgers.fullHall();
        full.slight(4, 2, 1);
        CHECKS.same("witnessesFor(0) of a full hall", full.witnessesFor(0), 4);
    }

    private static void inState() {
        ApologyLedger x = Ledgers.ofEachState();
        CHECKS.same("inState(0)", x.inState(0), 2);
        CHECKS.same("inState(1)", x.inState(1), 1);
        CHECKS.same("inState(2)", x.inState(2), 1);
        CHECKS.same("inState(3)", x.inState(3), 1);
    }

    private static void heaviest() {
        CHECKS.same("heaviest() without any", new ApologyLedger().heaviest(), -1);
        ApologyLedger x = Ledgers.ofThree();
        x.slight(0, 1, 5);
        x.slight(1, 2, 9);
        x.slight(2, 0, 9);
        CHECKS.same("heaviest(), two alike", x.heaviest(), 1);
        x.mention(2);
        CHECKS.same("heaviest()", x.heaviest(), 2);
        x.apologize(2, 10);
        CHECKS.same("heaviest(), one settled", x.heaviest(), 1);
        x.pass(30);
        CHECKS.same("heaviest(), none open", x.heaviest(), -1);
    }

    private static void pairsToSetOff() {
        ApologyLedger x = Ledgers.ofThree();
        CHECKS.same("pairsToSetOff() without any", x.pairsToSetOff(), 0);
        x.slight(0, 1, 1);
        x.slight(0, 1, 2);
        x.slight(1, 2, 3);
        x.slight(2, 0, 3);
        CHECKS.same("pairsToSetOff(), none against each other", x.pairsToSetOff(), 0);
        x.slight(1, 0, 3);
        CHECKS.same("pairsToSetOff()", x.pairsToSetOff(), 2);
        x.slight(1, 0, 4);
        x.slight(2, 1, 4);
        CHECKS.same("pairsToSetOff()", x.pairsToSetOff(), 5);
        x.setOff(0, 4);
        CHECKS.same("pairsToSetOff(), one set off", x.pairsToSetOff(), 3);
        x.pass(30);
        CHECKS.same("pairsToSetOff(), none open", x.pairsToSetOff(), 0);
    }
}
