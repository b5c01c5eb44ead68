import java.util.function.Consumer;

/** The boundary cases that promises 31 to 37 name, and each refused call, a method for each sentence. */
public final class ForecastEdgesTest {
    private static final Checks CHECKS = new Checks();
    private static final Edges EDGES = new Edges(CHECKS);

    private ForecastEdgesTest() {
    }

    public static void main(String[] args) {
        wordsWantedFewest();
        wordsWantedAsApologiesGo();
        wordsWantedTooMany();
        wordsWantedNotOpen();
        wordsWantedNothing();
        wouldBeScornedAsApologiesGo();
        wouldBeScornedNotOpen();
        wouldBeScornedNothing();
        wouldBeScornedWords();
        wouldBeScornedBoth();
        weightInAsDaysGo();
        weightInBySpokenOf();
        weightInOfNotOpen();
        weightInNothing();
        weightInDays();
        weightInBoth();
        daysUntilForgottenAsDaysGo();
        daysUntilForgottenNotOpen();
        daysUntilForgottenNothing();
        borneInAsDaysGo();
        borneInNobody();
        borneInDays();
        borneInBoth();
        worstToKeepInTwentyDays();
        worstToKeepForgottenInTwentyDays();
        worstToKeepOfSeveral();
        worstToKeepWithoutGain();
        worstToKeepWithoutAny();
        worstToKeepNobody();
        meanWeightNotCut();
        meanWeightWithoutAny();
        nothingIsChanged();
        CHECKS.end();
    }

    /** Slight 0 of the weight, the pride of the offended one, and so many witnesses. */
    private static ApologyLedger of(int weight, int pride, int witnesses) {
        ApologyLedger x = Ledgers.withWeight(weight);
        x.setPride(1, pride);
        for (int person = 2; person < 2 + witnesses; person++) {
            x.enter(person);
        }
        return x;
    }

    private static void wordsWantedFewest() {
        CHECKS.sentence("Promise 31", "Returns the fewest words, 1 to 20, of an apology that would settle it now;");
        CHECKS.same("wordsWanted(0) at 1", of(1, 0, 0).wordsWanted(0), 1);
        CHECKS.same("wordsWanted(0) at 2", of(2, 0, 0).wordsWanted(0), 2);
        CHECKS.same("wordsWanted(0) at 20", of(20, 0, 0).wordsWanted(0), 20);
        CHECKS.same("wordsWanted(0) at 1, 4 witnesses", of(1, 0, 4).wordsWanted(0), 1);
        CHECKS.same("wordsWanted(0) at 9, 4 witnesses", of(9, 0, 4).wordsWanted(0), 1);
        CHECKS.same("wordsWanted(0) at 10, 4 witnesses", of(10, 0, 4).wordsWanted(0), 2);
        CHECKS.same("wordsWanted(0) at 28, 4 witnesses", of(28, 0, 4).wordsWanted(0), 20);
        CHECKS.same("wordsWanted(0) at 1, pride 9", of(1, 9, 0).wordsWanted(0), 9);
        CHECKS.same("wordsWanted(0) at 9, pride 9", of(9, 9, 0).wordsWanted(0), 9);
        CHECKS.same("wordsWanted(0) at 10, pride 9", of(10, 9, 0).wordsWanted(0), 10);
        CHECKS.same("wordsWanted(0) at 1, pride 9, 4 witnesses", of(1, 9, 4).wordsWanted(0), 1);
        CHECKS.same("wordsWanted(0) at 1, pride 9, 3 witnesses", of(1, 9, 3).wordsWanted(0), 3);
    }

    /** Each number of words is tried on a ledger of its own. */
    private static int wordsThatSettle(int weight, int pride, int witnesses) {
        for (int words = 1; words <= 20; words++) {
            ApologyLedger x = of(weight, pride, witnesses);
            x.apologize(0, words);
            if (x.stateOf(0) == Ledgers.SETTLED) {
                return words;
            }
        }
        return -1;
    }

    private static void wordsWantedAsApologiesGo() {
        CHECKS.sentence("Promise 31", "the fewest words, 1 to 20, of an apology that would settle it now; -1 if 20 do not do");
        for (int weight = 1; weight <= 32; weight++) {
            for (int pride = 0; pride <= 9; pride += 3) {
                for (int witnesses = 0; witnesses <= 4; witnesses++) {
                    CHECKS.same("wordsWanted(0) at " + weight + ", pride " + pride + ", witnesses " + witnesses,
                        of(weight, pride, witnesses).wordsWanted(0), wordsThatSettle(weight, pride, witnesses));
                }
            }
        }
    }

    private static void wordsWantedTooMany() {
        CHECKS.sentence("Promise 31", "-1 if 20 do not do,");
        CHECKS.same("wordsWanted(0) at 21", of(21, 0, 0).wordsWanted(0), -1);
        CHECKS.same("wordsWanted(0) at 29, 4 witnesses", of(29, 0, 4).wordsWanted(0), -1);
        CHECKS.same("wordsWanted(0) at 99", of(99, 0, 0).wordsWanted(0), -1);
        CHECKS.same("wordsWanted(0) at 99, 4 witnesses", of(99, 9, 4).wordsWanted(0), -1);
        CHECKS.same("wordsWanted(19) of twenty at 99", Ledgers.allAt99().wordsWanted(19), -1);
    }

    private static void wordsWantedNotOpen() {
        CHECKS.sentence("Promise 31", "or if it is not open (nothing is changed).");
        ApologyLedger x = Ledgers.ofEachState();
        for (int slight = 1; slight <= 3; slight++) {
            CHECKS.same("wordsWanted(" + slight + ")", x.wordsWanted(slight), -1);
        }
        CHECKS.same("wordsWanted(4), open", x.wordsWanted(4), 13);
    }

    private static void wordsWantedNothing() {
        CHECKS.sentence("Promise 31", "Throws `IndexOutOfBoundsException` if there is no such slight");
        EDGES.slights("wordsWanted", ApologyLedger::wordsWanted);
    }

    private static boolean isScorned(ApologyLedger x, int words) {
        x.apologize(0, words);
        return x.scorned() == 1;
    }

    private static void wouldBeScornedAsApologiesGo() {
        CHECKS.sentence("Promise 32", "Returns whether an apology with them would be scorned now;");
        CHECKS.same("wouldBeScorned(0, 1) at 1, pride 0", of(1, 0, 0).wouldBeScorned(0, 1), false);
        CHECKS.same("wouldBeScorned(0, 1) at 1, pride 1", of(1, 1, 0).wouldBeScorned(0, 1), false);
        CHECKS.same("wouldBeScorned(0, 1) at 1, pride 2", of(1, 2, 0).wouldBeScorned(0, 1), true);
        CHECKS.same("wouldBeScorned(0, 8) at 1, pride 9", of(1, 9, 0).wouldBeScorned(0, 8), true);
        CHECKS.same("wouldBeScorned(0, 9) at 1, pride 9", of(1, 9, 0).wouldBeScorned(0, 9), false);
        CHECKS.same("wouldBeScorned(0, 20) at 83", of(83, 0, 0).wouldBeScorned(0, 20), false);
        CHECKS.same("wouldBeScorned(0, 20) at 84", of(84, 0, 0).wouldBeScorned(0, 20), true);
        CHECKS.same("wouldBeScorned(0, 15) at 99, 4 witnesses", of(99, 0, 4).wouldBeScorned(0, 15), true);
        CHECKS.same("wouldBeScorned(0, 16) at 99, 4 witnesses", of(99, 0, 4).wouldBeScorned(0, 16), false);
        for (int words = 1; words <= 20; words++) {
            for (int weight = 1; weight <= 99; weight += 7) {
                for (int pride = 0; pride <= 9; pride += 3) {
                    CHECKS.same("wouldBeScorned(0, " + words + ") at " + weight + ", pride " + pride + ", 2 witnesses",
                        of(weight, pride, 2).wouldBeScorned(0, words), isScorned(of(weight, pride, 2), words));
                }
            }
        }
    }

    private static void wouldBeScornedNotOpen() {
        CHECKS.sentence("Promise 32", "false if the slight is not open (nothing is changed).");
        ApologyLedger x = Ledgers.ofEachState();
        for (int person = 0; person < 3; person++) {
            x.setPride(person, 9);
        }
        CHECKS.same("wouldBeScorned(0, 1), open", x.wouldBeScorned(0, 1), true);
        for (int slight = 1; slight <= 3; slight++) {
            CHECKS.same("wouldBeScorned(" + slight + ", 1)", x.wouldBeScorned(slight, 1), false);
            CHECKS.same("wouldBeScorned(" + slight + ", 20)", x.wouldBeScorned(slight, 20), false);
        }
    }

    private static void wouldBeScornedNothing() {
        CHECKS.sentence("Promise 32", "Throws `IndexOutOfBoundsException` if there is no such slight");
        EDGES.slights("wouldBeScorned", (x, slight) -> x.wouldBeScorned(slight, 5));
    }

    private static void wouldBeScornedWords() {
        CHECKS.sentence("Promise 32", "Throws `IllegalArgumentException` if words is not 1 to 20");
        for (int slight = 0; slight < 5; slight++) {
            int which = slight;
            EDGES.numbers("words for slight " + which, 1, 20, Ledgers::ofEachState, (x, words) -> x.wouldBeScorned(which, words));
        }
    }

    private static void wouldBeScornedBoth() {
        CHECKS.sentence("Terms, for promise 32", "If several exceptions apply, the one that is named first is thrown.");
        for (int words : new int[] {0, 21}) {
            CHECKS.noSuch("wouldBeScorned(-1, " + words + ")", Ledgers::ofEachState, x -> x.wouldBeScorned(-1, words));
            CHECKS.noSuch("wouldBeScorned(5, " + words + ")", Ledgers::ofEachState, x -> x.wouldBeScorned(5, words));
            CHECKS.noSuch("wouldBeScorned(20, " + words + ")", Ledgers::full, x -> x.wouldBeScorned(20, words));
        }
    }

    private static int weightBehind(ApologyLedger x, int days) {
        x.pass(days);
        return x.weightOf(0);
    }

    private static void weightInAsDaysGo() {
        CHECKS.sentence("Promise 33", "Returns its weight behind them, if nothing is done by hand (nothing is changed).");
        CHECKS.same("weightIn(0, 4)", Ledgers.quietFor(0).weightIn(0, 4), 20);
        CHECKS.same("weightIn(0, 5)", Ledgers.quietFor(0).weightIn(0, 5), 22);
        CHECKS.same("weightIn(0, 29)", Ledgers.quietFor(0).weightIn(0, 29), 30);
        CHECKS.same("weightIn(0, 30)", Ledgers.quietFor(0).weightIn(0, 30), 0);
        CHECKS.same("weightIn(0, 60)", Ledgers.quietFor(0).weightIn(0, 60), 0);
        CHECKS.same("weightIn(0, 1), a day before it is forgotten", Ledgers.quietFor(28).weightIn(0, 1), 30);
        CHECKS.same("weightIn(0, 1), forgotten by then", Ledgers.quietFor(29).weightIn(0, 1), 0);
        CHECKS.same("weightIn(0, 5) at 90", Ledgers.withWeight(90).weightIn(0, 5), 99);
        CHECKS.same("weightIn(0, 29) at 99", Ledgers.withWeight(99).weightIn(0, 29), 99);
        for (int quiet = 0; quiet <= 30; quiet++) {
            for (int days = 1; days <= 60; days++) {
                CHECKS.same("weightIn(0, " + days + "), quiet for " + quiet,
                    Ledgers.quietFor(quiet).weightIn(0, days), weightBehind(Ledgers.quietFor(quiet), days));
            }
        }
        for (int weight = 1; weight <= 99; weight++) {
            CHECKS.same("weightIn(0, 5) at " + weight,
                Ledgers.withWeight(weight).weightIn(0, 5), weightBehind(Ledgers.withWeight(weight), 5));
        }
    }

    /** Days borne and quiet days are not the same any more: the first let it get heavier, the others be forgotten. */
    private static void weightInBySpokenOf() {
        CHECKS.sentence("Promise 33", "Returns its weight behind them, if nothing is done by hand");
        ApologyLedger x = Ledgers.quietFor(3);
        x.mention(0);
        CHECKS.same("weightIn(0, 1), spoken of on the day 3", x.weightIn(0, 1), 21);
        CHECKS.same("weightIn(0, 2)", x.weightIn(0, 2), 23);
        CHECKS.same("weightIn(0, 6)", x.weightIn(0, 6), 23);
        CHECKS.same("weightIn(0, 7)", x.weightIn(0, 7), 25);
        CHECKS.same("weightIn(0, 27), borne for 30 days", x.weightIn(0, 27), 34);
        CHECKS.same("weightIn(0, 29), quiet for 29 days", x.weightIn(0, 29), 34);
        CHECKS.same("weightIn(0, 30), quiet for 30 days", x.weightIn(0, 30), 0);
    }

    private static void weightInOfNotOpen() {
        CHECKS.sentence("Terms", "One that is not open has the weight 0.");
        ApologyLedger x = Ledgers.ofEachState();
        for (int slight = 1; slight <= 3; slight++) {
            CHECKS.same("weightIn(" + slight + ", 1)", x.weightIn(slight, 1), 0);
            CHECKS.same("weightIn(" + slight + ", 5)", x.weightIn(slight, 5), 0);
            CHECKS.same("weightIn(" + slight + ", 60)", x.weightIn(slight, 60), 0);
        }
    }

    private static void weightInNothing() {
        CHECKS.sentence("Promise 33", "Throws `IndexOutOfBoundsException` if there is no such slight");
        EDGES.slights("weightIn", (x, slight) -> x.weightIn(slight, 5));
    }

    private static void weightInDays() {
        CHECKS.sentence("Promise 33", "Throws `IllegalArgumentException` if days is not 1 to 60");
        for (int slight = 0; slight < 5; slight++) {
            int which = slight;
            EDGES.numbers("days of slight " + which, 1, 60, Ledgers::ofEachState, (x, days) -> x.weightIn(which, days));
        }
    }

    private static void weightInBoth() {
        CHECKS.sentence("Terms, for promise 33", "If several exceptions apply, the one that is named first is thrown.");
        for (int days : new int[] {0, 61}) {
            CHECKS.noSuch("weightIn(-1, " + days + ")", Ledgers::ofEachState, x -> x.weightIn(-1, days));
            CHECKS.noSuch("weightIn(5, " + days + ")", Ledgers::ofEachState, x -> x.weightIn(5, days));
            CHECKS.noSuch("weightIn(20, " + days + ")", Ledgers::full, x -> x.weightIn(20, days));
        }
    }

    private static void daysUntilForgottenAsDaysGo() {
        CHECKS.sentence("Promise 34", "Returns in how many days it is forgotten, if nothing is done by hand;");
        for (int quiet = 0; quiet < 30; quiet++) {
            ApologyLedger x = Ledgers.quietFor(quiet);
            int days = x.daysUntilForgotten(0);
            CHECKS.same("daysUntilForgotten(0), quiet for " + quiet, days, 30 - quiet);
            CHECKS.same("pass() until it is forgotten", x.pass(30 - quiet), 1);
        }
        ApologyLedger mentioned = Ledgers.quietFor(29);
        mentioned.mention(0);
        CHECKS.same("daysUntilForgotten(0), spoken of", mentioned.daysUntilForgotten(0), 30);
        ApologyLedger scorned = Ledgers.quietFor(29);
        scorned.apologize(0, 1);
        CHECKS.same("daysUntilForgotten(0), an apology scorned", scorned.daysUntilForgotten(0), 30);
        ApologyLedger heard = Ledgers.quietFor(29);
        heard.apologize(0, 20);
        CHECKS.same("daysUntilForgotten(0), an apology heard", heard.daysUntilForgotten(0), 1);
    }

    private static void daysUntilForgottenNotOpen() {
        CHECKS.sentence("Promise 34", "-1 if it is not open (nothing is changed).");
        ApologyLedger x = Ledgers.ofEachState();
        for (int slight = 1; slight <= 3; slight++) {
            CHECKS.same("daysUntilForgotten(" + slight + ")", x.daysUntilForgotten(slight), -1);
        }
        CHECKS.same("daysUntilForgotten(0), forgotten just now", Ledgers.quietFor(30).daysUntilForgotten(0), -1);
    }

    private static void daysUntilForgottenNothing() {
        CHECKS.sentence("Promise 34", "Throws `IndexOutOfBoundsException` if there is no such slight");
        EDGES.slights("daysUntilForgotten", ApologyLedger::daysUntilForgotten);
    }

    /** Nine slights of several ages; 6 of them against the person 1; one is settled. */
    private static ApologyLedger ofSeveralAges() {
        ApologyLedger x = Ledgers.ofThree();
        for (int i = 0; i < 9; i++) {
            x.slight(i % 3 == 0 ? 1 : 0, i % 3 == 0 ? 2 : 1, 20 - 2 * i);
            x.pass(3);
        }
        x.apologize(4, 20);
        return x;
    }

    private static int borneBehind(ApologyLedger x, int person, int days) {
        x.pass(days);
        return x.borneBy(person);
    }

    private static void borneInAsDaysGo() {
        CHECKS.sentence("Promise 35", "Returns borneBy() of it behind them, if nothing is done by hand (nothing is changed).");
        CHECKS.same("borneIn(0, 1) without slights", Ledgers.ofThree().borneIn(0, 1), 0);
        CHECKS.same("borneIn(0, 60) without slights", Ledgers.ofThree().borneIn(0, 60), 0);
        CHECKS.same("borneIn(1, 14) of twenty at 99", Ledgers.allAt99().borneIn(1, 14), 20 * 99);
        CHECKS.same("borneIn(1, 15) of twenty at 99, forgotten", Ledgers.allAt99().borneIn(1, 15), 0);
        CHECKS.same("borneIn(0, 14) of twenty at 99, of the offender", Ledgers.allAt99().borneIn(0, 14), 0);
        for (int days = 1; days <= 60; days++) {
            for (int person = 0; person < 3; person++) {
                CHECKS.same("borneIn(" + person + ", " + days + ")",
                    ofSeveralAges().borneIn(person, days), borneBehind(ofSeveralAges(), person, days));
            }
        }
    }

    private static void borneInNobody() {
        CHECKS.sentence("Promise 35", "Throws `IndexOutOfBoundsException` if there is no such person");
        EDGES.persons("borneIn", (x, person) -> x.borneIn(person, 5), 0, 1, 3, 6);
    }

    private static void borneInDays() {
        CHECKS.sentence("Promise 35", "Throws `IllegalArgumentException` if days is not 1 to 60");
        EDGES.numbers("days without slights", 1, 60, Ledgers::ofThree, (x, days) -> x.borneIn(0, days));
        EDGES.numbers("days of each state", 1, 60, Ledgers::ofEachState, (x, days) -> x.borneIn(2, days));
        EDGES.numbers("days of twenty", 1, 60, Ledgers::full, (x, days) -> x.borneIn(5, days));
    }

    private static void borneInBoth() {
        CHECKS.sentence("Terms, for promise 35", "If several exceptions apply, the one that is named first is thrown.");
        for (int days : new int[] {0, 61}) {
            CHECKS.noSuch("borneIn(-1, " + days + ")", Ledgers::ofThree, x -> x.borneIn(-1, days));
            CHECKS.noSuch("borneIn(3, " + days + ")", Ledgers::ofThree, x -> x.borneIn(3, days));
            CHECKS.noSuch("borneIn(6, " + days + ")", Ledgers::full, x -> x.borneIn(6, days));
        }
    }

    /** On the day 5 slight 0 gets heavier in 5, 10, 15 and 20 days, slight 1 in 1, 6, 11, 16 and 21. */
    private static void worstToKeepInTwentyDays() {
        CHECKS.sentence("Promise 36", "the one that gets the most heavier within 20 days,");
        ApologyLedger x = Ledgers.ofThree();
        x.slight(0, 1, 1);
        x.pass(1);
        x.slight(0, 1, 1);
        x.pass(4);
        CHECKS.same("worstToKeep(0), 4 times heavier both", x.worstToKeep(0), 0);
        x.mention(1);
        CHECKS.same("worstToKeep(0), the heavier one gets as much heavier", x.worstToKeep(0), 0);
        x.slight(0, 2, 20);
        CHECKS.same("worstToKeep(0), one that gets twice as much heavier", x.worstToKeep(0), 2);
    }

    /** Slight 0 gets heavier by 8 in 20 days, slight 1 by 4 alone. */
    private static void worstToKeepForgottenInTwentyDays() {
        CHECKS.sentence("Promise 36", "within 20 days, if nothing is done by hand,");
        ApologyLedger ninth = Ledgers.quietFor(9);
        ninth.slight(0, 2, 1);
        CHECKS.same("worstToKeep(0), forgotten in 21 days", ninth.worstToKeep(0), 0);
        ApologyLedger tenth = Ledgers.quietFor(10);
        tenth.slight(0, 2, 1);
        CHECKS.same("worstToKeep(0), forgotten in 20 days", tenth.worstToKeep(0), 1);
        tenth.mention(0);
        CHECKS.same("worstToKeep(0), spoken of", tenth.worstToKeep(0), 0);
    }

    private static void worstToKeepOfSeveral() {
        CHECKS.sentence("Promise 36", "of several the smallest number;");
        ApologyLedger x = Ledgers.ofPersons(6);
        for (int i = 0; i < 20; i++) {
            x.slight(i < 10 ? 5 : 4, i % 4, 3);
        }
        CHECKS.same("worstToKeep(5), ten alike", x.worstToKeep(5), 0);
        CHECKS.same("worstToKeep(4), ten alike", x.worstToKeep(4), 10);
        CHECKS.same("worstToKeep(0), slighted alone", x.worstToKeep(0), -1);
        x.apologize(10, 3);
        CHECKS.same("worstToKeep(4), the first settled", x.worstToKeep(4), 11);
        Ledgers.mentionTimes(x, 19, 20);
        CHECKS.same("worstToKeep(4), the last one heavier", x.worstToKeep(4), 19);
    }

    /** They get no heavier, or lighter since they are forgotten, but there are some. */
    private static void worstToKeepWithoutGain() {
        CHECKS.sentence("Promise 36", "of the open slights of which it is the offender the one that gets the most heavier");
        CHECKS.same("worstToKeep(0) of one at 99", Ledgers.withWeight(99).worstToKeep(0), 0);
        ApologyLedger x = Ledgers.withWeight(99);
        x.slight(0, 1, 1);
        CHECKS.same("worstToKeep(0), one at 99 and one at 1", x.worstToKeep(0), 1);
        CHECKS.same("worstToKeep(0) of one, forgotten by then", Ledgers.quietFor(10).worstToKeep(0), 0);
        CHECKS.same("worstToKeep(0) of twenty at 99, forgotten by then", Ledgers.allAt99().worstToKeep(0), 0);
    }

    private static void worstToKeepWithoutAny() {
        CHECKS.sentence("Promise 36", "-1 without any (nothing is changed).");
        CHECKS.same("worstToKeep(0) without slights", Ledgers.ofThree().worstToKeep(0), -1);
        CHECKS.same("worstToKeep(1), of another one alone", Ledgers.withWeight(5).worstToKeep(1), -1);
        CHECKS.same("worstToKeep(1), settled", Ledgers.ofEachState().worstToKeep(1), -1);
        CHECKS.same("worstToKeep(0), forgotten", Ledgers.quietFor(30).worstToKeep(0), -1);
        ApologyLedger setOff = Ledgers.withWeight(3);
        setOff.slight(1, 0, 3);
        setOff.setOff(0, 1);
        CHECKS.same("worstToKeep(0), set off", setOff.worstToKeep(0), -1);
        CHECKS.same("worstToKeep(1), set off", setOff.worstToKeep(1), -1);
    }

    private static void worstToKeepNobody() {
        CHECKS.sentence("Promise 36", "Throws `IndexOutOfBoundsException` if there is no such person");
        EDGES.persons("worstToKeep", ApologyLedger::worstToKeep, 0, 1, 3, 6);
    }

    private static void meanWeightNotCut() {
        CHECKS.sentence("Promise 37", "Returns the mean weight of open slights;");
        CHECKS.sameDouble("meanWeight() of one at 1", Ledgers.withWeight(1).meanWeight(), 1.0);
        CHECKS.sameDouble("meanWeight() of one at 99", Ledgers.withWeight(99).meanWeight(), 99.0);
        CHECKS.sameDouble("meanWeight() of 1 and 2", Ledgers.ofSlights(2).meanWeight(), 1.5);
        CHECKS.sameDouble("meanWeight() of 1 to 20", Ledgers.full().meanWeight(), 10.5);
        CHECKS.sameDouble("meanWeight() of twenty at 99", Ledgers.allAt99().meanWeight(), 99.0);
        ApologyLedger x = Ledgers.ofSlights(3);
        x.mention(2);
        CHECKS.sameDouble("meanWeight() of 1, 2 and 4", x.meanWeight(), 7.0 / 3.0);
        x.setOff(0, 1);
        CHECKS.sameDouble("meanWeight() of 1 and 4, one set off", x.meanWeight(), 2.5);
    }

    private static void meanWeightWithoutAny() {
        CHECKS.sentence("Promise 37", "0 without any.");
        CHECKS.sameDouble("meanWeight() of a new one", new ApologyLedger().meanWeight(), 0.0);
        CHECKS.sameDouble("meanWeight() without slights", Ledgers.fullHall().meanWeight(), 0.0);
        ApologyLedger settled = Ledgers.withWeight(1);
        settled.apologize(0, 1);
        CHECKS.sameDouble("meanWeight(), the only one settled", settled.meanWeight(), 0.0);
        ApologyLedger forgotten = Ledgers.full();
        forgotten.pass(30);
        CHECKS.sameDouble("meanWeight(), twenty forgotten", forgotten.meanWeight(), 0.0);
    }

    private static void nothingIsChanged() {
        CHECKS.sentence("Promises 31 to 36", "(nothing is changed).");
        changesNothing("wordsWanted(0)", x -> x.wordsWanted(0));
        changesNothing("wordsWanted(1)", x -> x.wordsWanted(1));
        changesNothing("wouldBeScorned(0, 1)", x -> x.wouldBeScorned(0, 1));
        changesNothing("wouldBeScorned(0, 20)", x -> x.wouldBeScorned(0, 20));
        changesNothing("wouldBeScorned(1, 1)", x -> x.wouldBeScorned(1, 1));
        changesNothing("weightIn(0, 1)", x -> x.weightIn(0, 1));
        changesNothing("weightIn(0, 60)", x -> x.weightIn(0, 60));
        changesNothing("daysUntilForgotten(0)", x -> x.daysUntilForgotten(0));
        changesNothing("borneIn(0, 1)", x -> x.borneIn(0, 1));
        changesNothing("borneIn(0, 60)", x -> x.borneIn(0, 60));
        changesNothing("worstToKeep(0)", x -> x.worstToKeep(0));
        changesNothing("meanWeight()", ApologyLedger::meanWeight);
        changesNothing("digest()", ApologyLedger::digest);
    }

    private static void changesNothing(String call, Consumer<ApologyLedger> run) {
        CHECKS.unchanged(call + " of each state", Ledgers::ofEachState, run);
        CHECKS.unchanged(call + " of twenty", Ledgers::full, run);
        CHECKS.unchanged(call + " of twenty at 99", Ledgers::allAt99, run);
    }
}
