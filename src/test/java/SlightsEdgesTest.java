/** The boundary cases that promises 21 to 30 name, and each refused call, a method for each sentence. */
public final class SlightsEdgesTest {
    private static final Checks CHECKS = new Checks();
    private static final Edges EDGES = new Edges(CHECKS);

    private SlightsEdgesTest() {
    }

    public static void main(String[] args) {
        offenderOfNothing();
        offendedOfNothing();
        weightOfNothing();
        stateOfNothing();
        borneForOrWas();
        borneForNothing();
        quietForOrHad();
        quietForNothing();
        witnessesForOpenOrNot();
        witnessesForNoneToAll();
        witnessesForNothing();
        inStateNoneToAll();
        inStateOutside();
        heaviestOfSeveral();
        heaviestOfNone();
        pairsNoneToAll();
        pairsOfOpenOnes();
        CHECKS.end();
    }

    private static void offenderOfNothing() {
        CHECKS.sentence("Promise 21", "Throws `IndexOutOfBoundsException` if there is no such slight");
        EDGES.slights("offenderOf", ApologyLedger::offenderOf);
        CHECKS.same("offenderOf(19) of twenty", Ledgers.full().offenderOf(19), 1);
        for (int slight = 1; slight <= 3; slight++) {
            int due = new int[] {0, 1, 2, 0}[slight];
            CHECKS.same("offenderOf(" + slight + "), not open", Ledgers.ofEachState().offenderOf(slight), due);
        }
    }

    private static void offendedOfNothing() {
        CHECKS.sentence("Promise 22", "Throws `IndexOutOfBoundsException` if there is no such slight");
        EDGES.slights("offendedOf", ApologyLedger::offendedOf);
        CHECKS.same("offendedOf(19) of twenty", Ledgers.full().offendedOf(19), 2);
        for (int slight = 1; slight <= 3; slight++) {
            int due = new int[] {1, 2, 0, 2}[slight];
            CHECKS.same("offendedOf(" + slight + "), not open", Ledgers.ofEachState().offendedOf(slight), due);
        }
    }

    private static void weightOfNothing() {
        CHECKS.sentence("Promise 23", "Throws `IndexOutOfBoundsException` if there is no such slight");
        EDGES.slights("weightOf", ApologyLedger::weightOf);
        CHECKS.same("weightOf(0) of twenty", Ledgers.full().weightOf(0), 1);
        CHECKS.same("weightOf(19) of twenty", Ledgers.full().weightOf(19), 20);
    }

    private static void stateOfNothing() {
        CHECKS.sentence("Promise 24", "Throws `IndexOutOfBoundsException` if there is no such slight");
        EDGES.slights("stateOf", ApologyLedger::stateOf);
        ApologyLedger x = Ledgers.full();
        x.apologize(19, 20);
        CHECKS.same("stateOf(19) of twenty", x.stateOf(19), Ledgers.SETTLED);
        CHECKS.same("stateOf(18) of twenty", x.stateOf(18), Ledgers.OPEN);
    }

    /** A slight of 0 against 1, made on the day 0, is no more open on the day 7 in one of three ways. */
    private static ApologyLedger closedOnTheSeventhDay(int state) {
        ApologyLedger x = Ledgers.quietFor(5);
        x.mention(0);
        x.pass(2);
        if (state == Ledgers.SETTLED) {
            x.apologize(0, 10);
            x.apologize(0, 13);
        } else {
            x.slight(1, 0, 20);
            x.slight(1, 0, 20);
            x.setOff(0, 1);
            x.setOff(2, 0);
        }
        CHECKS.same("stateOf(0)", x.stateOf(0), state);
        return x;
    }

    private static void borneForOrWas() {
        CHECKS.sentence("Promise 25", "Returns for how many days it is borne, or was.");
        CHECKS.same("borneFor(0) at first", Ledgers.withWeight(1).borneFor(0), 0);
        CHECKS.same("borneFor(0), a day old", Ledgers.quietFor(1).borneFor(0), 1);
        CHECKS.same("borneFor(0), the day before it is forgotten", Ledgers.quietFor(29).borneFor(0), 29);
        CHECKS.same("borneFor(0), forgotten", Ledgers.quietFor(30).borneFor(0), 30);
        CHECKS.same("borneFor(0), forgotten long ago", Ledgers.quietFor(60).borneFor(0), 30);
        for (int state : new int[] {Ledgers.SETTLED, Ledgers.SET_OFF}) {
            ApologyLedger x = closedOnTheSeventhDay(state);
            CHECKS.same("borneFor(0), in the state " + state, x.borneFor(0), 7);
            x.pass(60);
            CHECKS.same("borneFor(0), long in the state " + state, x.borneFor(0), 7);
        }
    }

    private static void borneForNothing() {
        CHECKS.sentence("Promise 25", "Throws `IndexOutOfBoundsException` if there is no such slight");
        EDGES.slights("borneFor", ApologyLedger::borneFor);
    }

    private static void quietForOrHad() {
        CHECKS.sentence("Promise 26", "Returns for how many days nobody has spoken of it, or had.");
        CHECKS.same("quietFor(0) at first", Ledgers.withWeight(1).quietFor(0), 0);
        CHECKS.same("quietFor(0), a day old", Ledgers.quietFor(1).quietFor(0), 1);
        CHECKS.same("quietFor(0), the day before it is forgotten", Ledgers.quietFor(29).quietFor(0), 29);
        CHECKS.same("quietFor(0), forgotten", Ledgers.quietFor(30).quietFor(0), 30);
        CHECKS.same("quietFor(0), forgotten long ago", Ledgers.quietFor(60).quietFor(0), 30);
        for (int state : new int[] {Ledgers.SETTLED, Ledgers.SET_OFF}) {
            ApologyLedger x = closedOnTheSeventhDay(state);
            CHECKS.same("quietFor(0), in the state " + state, x.quietFor(0), 2);
            x.pass(60);
            CHECKS.same("quietFor(0), long in the state " + state, x.quietFor(0), 2);
        }
    }

    private static void quietForNothing() {
        CHECKS.sentence("Promise 26", "Throws `IndexOutOfBoundsException` if there is no such slight");
        EDGES.slights("quietFor", ApologyLedger::quietFor);
    }

    private static void witnessesForOpenOrNot() {
        CHECKS.sentence("Promise 27", "Returns how many witnesses an apology for it would have now, open or not.");
        ApologyLedger x = Ledgers.ofEachState();
        for (int person = 0; person < 3; person++) {
            x.enter(person);
        }
        for (int slight = 0; slight < 5; slight++) {
            CHECKS.same("witnessesFor(" + slight + ")", x.witnessesFor(slight), 1);
        }
        x.enter(2);
        CHECKS.same("witnessesFor(0), the third one out", x.witnessesFor(0), 0);
        CHECKS.same("witnessesFor(1), the third one is offended, settled", x.witnessesFor(1), 1);
        CHECKS.same("witnessesFor(2), the third one is the offender, forgotten", x.witnessesFor(2), 1);
        CHECKS.same("witnessesFor(3), the third one is offended, set off", x.witnessesFor(3), 1);
    }

    private static void witnessesForNoneToAll() {
        CHECKS.sentence("Promise 27", "Returns how many witnesses an apology for it would have now");
        ApologyLedger x = Ledgers.full();
        for (int slight = 0; slight < 20; slight++) {
            CHECKS.same("witnessesFor(" + slight + "), all in the hall", x.witnessesFor(slight), 4);
        }
        for (int person = 0; person < 6; person++) {
            x.enter(person);
        }
        for (int slight = 0; slight < 20; slight++) {
            CHECKS.same("witnessesFor(" + slight + "), nobody in the hall", x.witnessesFor(slight), 0);
        }
    }

    private static void witnessesForNothing() {
        CHECKS.sentence("Promise 27", "Throws `IndexOutOfBoundsException` if there is no such slight");
        EDGES.slights("witnessesFor", ApologyLedger::witnessesFor);
    }

    private static void inStateNoneToAll() {
        CHECKS.sentence("Promise 28", "Returns how many slights are in it.");
        for (int state = 0; state <= 3; state++) {
            CHECKS.same("inState(" + state + ") without slights", new ApologyLedger().inState(state), 0);
        }
        ApologyLedger x = Ledgers.full();
        inStates("twenty open", x, 20, 0, 0, 0);
        x.apologize(19, 20);
        inStates("one settled", x, 19, 1, 0, 0);
        x.pass(30);
        inStates("the others forgotten", x, 0, 1, 19, 0);
        ApologyLedger y = Ledgers.ofSlights(20);
        y.setOff(0, 1);
        inStates("one set off", y, 19, 0, 0, 1);
    }

    private static void inStates(String when, ApologyLedger x, int... due) {
        for (int state = 0; state <= 3; state++) {
            CHECKS.same("inState(" + state + "), " + when, x.inState(state), due[state]);
        }
    }

    private static void inStateOutside() {
        CHECKS.sentence("Promise 28", "Throws `IllegalArgumentException` if state is not 0 to 3");
        EDGES.numbers("inState without slights", 0, 3, ApologyLedger::new, ApologyLedger::inState);
        EDGES.numbers("inState of each state", 0, 3, Ledgers::ofEachState, ApologyLedger::inState);
        EDGES.numbers("inState of twenty", 0, 3, Ledgers::full, ApologyLedger::inState);
    }

    private static void heaviestOfSeveral() {
        CHECKS.sentence("Promise 29", "Returns the heaviest open slight, of several the smallest number;");
        CHECKS.same("heaviest() of one of the weight 1", Ledgers.withWeight(1).heaviest(), 0);
        CHECKS.same("heaviest() of twenty", Ledgers.full().heaviest(), 19);
        ApologyLedger x = Ledgers.allAt99();
        CHECKS.same("heaviest() of twenty at 99", x.heaviest(), 0);
        x.apologize(0, 20);
        CHECKS.same("heaviest() behind a scorned one", x.heaviest(), 0);
        ApologyLedger y = Ledgers.ofThree();
        y.slight(0, 1, 4);
        y.slight(1, 2, 5);
        y.slight(2, 0, 5);
        CHECKS.same("heaviest(), two alike", y.heaviest(), 1);
        y.mention(0);
        CHECKS.same("heaviest(), three alike", y.heaviest(), 0);
        y.mention(2);
        CHECKS.same("heaviest(), the last by 1 more", y.heaviest(), 2);
        y.apologize(2, 6);
        CHECKS.same("heaviest(), that one settled", y.heaviest(), 0);
    }

    private static void heaviestOfNone() {
        CHECKS.sentence("Promise 29", "-1 without any.");
        CHECKS.same("heaviest() of a new one", new ApologyLedger().heaviest(), -1);
        CHECKS.same("heaviest() without slights", Ledgers.fullHall().heaviest(), -1);
        ApologyLedger settled = Ledgers.withWeight(1);
        settled.apologize(0, 1);
        CHECKS.same("heaviest(), the only one settled", settled.heaviest(), -1);
        ApologyLedger setOff = Ledgers.withWeight(3);
        setOff.slight(1, 0, 3);
        setOff.setOff(0, 1);
        CHECKS.same("heaviest(), both set off", setOff.heaviest(), -1);
        ApologyLedger forgotten = Ledgers.full();
        forgotten.pass(30);
        CHECKS.same("heaviest(), twenty forgotten", forgotten.heaviest(), -1);
    }

    private static void pairsNoneToAll() {
        CHECKS.sentence("Promise 30", "Returns how many pairs of open slights there are that can be set off against each other.");
        CHECKS.same("pairsToSetOff() of a new one", new ApologyLedger().pairsToSetOff(), 0);
        CHECKS.same("pairsToSetOff() of one", Ledgers.ofSlights(1).pairsToSetOff(), 0);
        CHECKS.same("pairsToSetOff() of two", Ledgers.ofSlights(2).pairsToSetOff(), 1);
        CHECKS.same("pairsToSetOff() of three", Ledgers.ofSlights(3).pairsToSetOff(), 2);
        CHECKS.same("pairsToSetOff() of four", Ledgers.ofSlights(4).pairsToSetOff(), 4);
        CHECKS.same("pairsToSetOff() of nineteen", Ledgers.ofSlights(19).pairsToSetOff(), 90);
        CHECKS.same("pairsToSetOff() of twenty", Ledgers.ofSlights(20).pairsToSetOff(), 100);
        CHECKS.same("pairsToSetOff() of twenty in a ring", Ledgers.full().pairsToSetOff(), 0);
        CHECKS.same("pairsToSetOff() of twenty one way", Ledgers.allAt99().pairsToSetOff(), 0);
    }

    private static void pairsOfOpenOnes() {
        CHECKS.sentence("Promise 30", "pairs of open slights");
        ApologyLedger x = Ledgers.ofSlights(20);
        x.setOff(18, 19);
        CHECKS.same("pairsToSetOff(), one of twenty set off", x.pairsToSetOff(), 90);
        x.apologize(0, 1);
        CHECKS.same("pairsToSetOff(), another one settled", x.pairsToSetOff(), 80);
        x.pass(29);
        x.mention(1);
        x.mention(2);
        x.pass(1);
        CHECKS.same("pairsToSetOff(), all but two forgotten", x.pairsToSetOff(), 1);
        x.pass(30);
        CHECKS.same("pairsToSetOff(), all forgotten", x.pairsToSetOff(), 0);
    }
}
