/** Promises 31 to 38: what would be. */
public final class ForecastTest {
    private static final Checks CHECKS = new Checks();

    private ForecastTest() {
    }

    public static void main(String[] args) {
        wordsWanted();
        wouldBeScorned();
        weightIn();
        weightInOfForgotten();
        daysUntilForgotten();
        borneIn();
        worstToKeep();
        worstToKeepOfForgotten();
        meanWeight();
        digestOfNothing();
        digestOfOnePerson();
        digestOfMany();
        digestLooksAheadByItsDays();
        CHECKS.end();
    }

    private static void wordsWanted() {
        ApologyLedger x = Ledgers.withPrides(0, 9, 0, 0, 0, 0);
        x.slight(0, 1, 8);
        CHECKS.same("wordsWanted(0), for the pride", x.wordsWanted(0), 9);
        x.setPride(1, 8);
        CHECKS.same("wordsWanted(0), for the weight", x.wordsWanted(0), 8);
        x.slight(0, 1, 20);
        CHECKS.same("wordsWanted(1) at 20", x.wordsWanted(1), 20);
        x.mention(1);
        CHECKS.same("wordsWanted(1) at 21", x.wordsWanted(1), -1);
        x.enter(3);
        CHECKS.same("wordsWanted(1) at 21 with a witness", x.wordsWanted(1), 19);
        x.enter(0);
        x.enter(1);
        CHECKS.same("wordsWanted(1), the two are no witnesses", x.wordsWanted(1), 19);
        x.enter(2);
        x.enter(4);
        x.enter(5);
        CHECKS.same("wordsWanted(0) with 4 witnesses, 1 at least", x.wordsWanted(0), 1);
        x.setPride(1, 9);
        CHECKS.same("wordsWanted(0), the pride and 4 witnesses", x.wordsWanted(0), 1);
        CHECKS.same("weightOf(0), nothing changed", x.weightOf(0), 8);
        CHECKS.same("scorned(), nothing changed", x.scorned(), 0);
        CHECKS.same("apologize(1, 13) settles it", x.apologize(1, x.wordsWanted(1)), 0);
        CHECKS.same("wordsWanted(1), settled", x.wordsWanted(1), -1);
    }

    private static void wouldBeScorned() {
        ApologyLedger x = Ledgers.withPrides(0, 3, 0);
        x.slight(0, 1, 8);
        x.slight(0, 2, 20);
        CHECKS.same("wouldBeScorned(0, 2)", x.wouldBeScorned(0, 2), true);
        CHECKS.same("wouldBeScorned(0, 3)", x.wouldBeScorned(0, 3), false);
        Ledgers.mentionTimes(x, 1, 3);
        CHECKS.same("wouldBeScorned(1, 4) at 23", x.wouldBeScorned(1, 4), true);
        CHECKS.same("wouldBeScorned(1, 5) at 23, cut", x.wouldBeScorned(1, 5), false);
        x.enter(1);
        CHECKS.same("wouldBeScorned(1, 2) at 23 with a witness", x.wouldBeScorned(1, 2), true);
        CHECKS.same("wouldBeScorned(1, 3) at 23 with a witness", x.wouldBeScorned(1, 3), false);
        CHECKS.same("wouldBeScorned(0, 2), the offended one in the hall", x.wouldBeScorned(0, 2), true);
        Ledgers.mentionTimes(x, 0, 91);
        CHECKS.same("wouldBeScorned(0, 20) at 99", x.wouldBeScorned(0, 20), true);
        CHECKS.same("scorned(), nothing changed", x.scorned(), 0);
        CHECKS.same("weightOf(1), nothing changed", x.weightOf(1), 23);
    }

    private static void weightIn() {
        ApologyLedger x = Ledgers.ofThree();
        x.slight(0, 1, 20);
        x.slight(1, 0, 5);
        x.pass(3);
        CHECKS.same("weightIn(0, 1)", x.weightIn(0, 1), 20);
        CHECKS.same("weightIn(0, 2), the fifth day", x.weightIn(0, 2), 22);
        CHECKS.same("weightIn(0, 7), the tenth day", x.weightIn(0, 7), 24);
        CHECKS.same("weightIn(0, 26)", x.weightIn(0, 26), 30);
        CHECKS.same("weightIn(1, 26), 1 more at least", x.weightIn(1, 26), 10);
        CHECKS.same("weightOf(0), nothing changed", x.weightOf(0), 20);
        CHECKS.same("borneFor(0), nothing changed", x.borneFor(0), 3);
        CHECKS.same("day(), nothing changed", x.day(), 3);
        Ledgers.mentionTimes(x, 0, 75);
        CHECKS.same("weightIn(0, 2) at 95, 99 at the most", x.weightIn(0, 2), 99);
    }

    private static void weightInOfForgotten() {
        ApologyLedger x = Ledgers.ofThree();
        x.slight(0, 1, 20);
        CHECKS.same("weightIn(0, 29)", x.weightIn(0, 29), 30);
        CHECKS.same("weightIn(0, 30), forgotten", x.weightIn(0, 30), 0);
        CHECKS.same("weightIn(0, 60), forgotten", x.weightIn(0, 60), 0);
        x.pass(20);
        CHECKS.same("weightIn(0, 9)", x.weightIn(0, 9), 30);
        CHECKS.same("weightIn(0, 10), forgotten", x.weightIn(0, 10), 0);
        x.mention(0);
        CHECKS.same("weightIn(0, 10), spoken of", x.weightIn(0, 10), 34);
    }

    private static void daysUntilForgotten() {
        ApologyLedger x = Ledgers.ofEachState();
        CHECKS.same("daysUntilForgotten(0)", x.daysUntilForgotten(0), 29);
        for (int slight = 1; slight <= 3; slight++) {
            CHECKS.same("daysUntilForgotten(" + slight + "), not open", x.daysUntilForgotten(slight), -1);
        }
        x.mention(0);
        CHECKS.same("daysUntilForgotten(0), spoken of", x.daysUntilForgotten(0), 30);
        x.pass(29);
        CHECKS.same("daysUntilForgotten(0), the last day", x.daysUntilForgotten(0), 1);
        x.pass(1);
        CHECKS.same("daysUntilForgotten(0), forgotten", x.daysUntilForgotten(0), -1);
    }

    private static void borneIn() {
        ApologyLedger x = Ledgers.ofThree();
        x.slight(0, 1, 20);
        x.slight(2, 1, 5);
        x.slight(1, 2, 10);
        x.pass(10);
        x.mention(1);
        CHECKS.same("borneIn(1, 4)", x.borneIn(1, 4), 24 + 8);
        CHECKS.same("borneIn(1, 5)", x.borneIn(1, 5), 26 + 9);
        CHECKS.same("borneIn(1, 20), one forgotten", x.borneIn(1, 20), 12);
        CHECKS.same("borneIn(1, 60), both forgotten", x.borneIn(1, 60), 0);
        CHECKS.same("borneIn(2, 5)", x.borneIn(2, 5), 13);
        CHECKS.same("borneIn(0, 5), without any", x.borneIn(0, 5), 0);
        CHECKS.same("borneBy(1), nothing changed", x.borneBy(1), 24 + 8);
        CHECKS.same("inState(0), nothing changed", x.inState(0), 3);
        x.apologize(1, 8);
        CHECKS.same("borneIn(1, 5), one settled", x.borneIn(1, 5), 26);
    }

    private static void worstToKeep() {
        ApologyLedger x = Ledgers.ofThree();
        CHECKS.same("worstToKeep(0) without any", x.worstToKeep(0), -1);
        x.slight(1, 0, 20);
        CHECKS.same("worstToKeep(0), of others alone", x.worstToKeep(0), -1);
        x.slight(0, 1, 5);
        x.slight(0, 2, 6);
        CHECKS.same("worstToKeep(0), two alike", x.worstToKeep(0), 1);
        x.slight(0, 1, 20);
        CHECKS.same("worstToKeep(0)", x.worstToKeep(0), 3);
        Ledgers.mentionTimes(x, 3, 79);
        CHECKS.same("worstToKeep(0), one at 99 gets no heavier", x.worstToKeep(0), 1);
        CHECKS.same("weightOf(1), nothing changed", x.weightOf(1), 5);
        x.apologize(1, 5);
        x.apologize(2, 6);
        CHECKS.same("worstToKeep(0), only the one at 99", x.worstToKeep(0), 3);
    }

    /** One that is forgotten within 20 days has the weight 0 behind them: it gets lighter. */
    private static void worstToKeepOfForgotten() {
        ApologyLedger x = Ledgers.ofThree();
        x.slight(0, 1, 20);
        x.slight(0, 1, 5);
        x.pass(9);
        CHECKS.same("worstToKeep(0), quiet for 29 days in 20", x.worstToKeep(0), 0);
        x.pass(1);
        x.slight(0, 2, 1);
        CHECKS.same("worstToKeep(0), two forgotten in 20", x.worstToKeep(0), 2);
        x.apologize(2, 1);
        CHECKS.same("worstToKeep(0), the one that gets less lighter", x.worstToKeep(0), 1);
        x.apologize(1, 7);
        CHECKS.same("worstToKeep(0), the only one", x.worstToKeep(0), 0);
        Ledgers.mentionTimes(x, 0, 80);
        x.pass(20);
        CHECKS.same("worstToKeep(0), the only one, at 99", x.worstToKeep(0), 0);
    }

    private static void meanWeight() {
        ApologyLedger x = Ledgers.ofThree();
        CHECKS.sameDouble("meanWeight() without any", x.meanWeight(), 0.0);
        x.slight(0, 1, 5);
        CHECKS.sameDouble("meanWeight() of one", x.meanWeight(), 5.0);
        x.slight(1, 0, 6);
        CHECKS.sameDouble("meanWeight(), not cut", x.meanWeight(), 5.5);
        x.slight(1, 0, 9);
        CHECKS.sameDouble("meanWeight() of three", x.meanWeight(), 20.0 / 3);
        x.apologize(2, 9);
        CHECKS.sameDouble("meanWeight(), of the open ones", x.meanWeight(), 5.5);
        x.pass(30);
        CHECKS.sameDouble("meanWeight(), none open", x.meanWeight(), 0.0);
    }

    private static long digestOf(long... numbers) {
        long d = 2027;
        for (long x : numbers) {
            d = d * 31 + x;
        }
        return d;
    }

    private static void digestOfNothing() {
        CHECKS.same("digest() of a new one", new ApologyLedger().digest(),
            digestOf(0, 0, 0, 0, 0, -1, 0, 0, 0, 0, -1, 0));
    }

    private static void digestOfOnePerson() {
        ApologyLedger x = Ledgers.withPrides(7);
        x.enter(0);
        x.pass(12);
        CHECKS.same("digest() of one person", x.digest(),
            digestOf(12, 1, 0, 1, 0, 0, 0, 0, 0, 0, -1, 0, 1, 7, 0, 0, 0, -1));
    }

    private static void digestOfMany() {
        ApologyLedger x = Ledgers.withPrides(3, 8, 0);
        x.enter(2);
        x.slight(0, 1, 20);
        x.slight(1, 0, 7);
        x.slight(1, 2, 4);
        x.pass(3);
        x.apologize(0, 1);
        x.apologize(2, 4);
        x.pass(1);
        CHECKS.same("digest() of three persons", x.digest(), digestOf(
            4, 3, 3, 1, 1, 1, 2, 1, 0, 0, 0, 1,
            0, 3, 7, 21, 9, 0,
            0, 8, 21, 7, 25, 1,
            1, 0, 0, 0, 0, -1,
            21, 0, 4, 1, 1, 19, 25, 29,
            7, 0, 4, 4, 1, 5, 9, 26,
            0, 1, 3, 3, 0, -1, 0, -1));
    }

    /** Borne for 4, 3, 2 and 0 days: each gets heavier at another distance from today. */
    private static void digestLooksAheadByItsDays() {
        ApologyLedger x = Ledgers.withPrides(0, 0);
        x.slight(0, 1, 1);
        x.pass(1);
        x.slight(0, 1, 1);
        x.pass(1);
        x.slight(0, 1, 1);
        x.pass(2);
        x.slight(0, 1, 1);
        CHECKS.same("digest() of four slights", x.digest(), digestOf(
            4, 2, 4, 0, 0, 1, 4, 0, 0, 0, 0, 0,
            0, 0, 0, 4, 0, 0,
            0, 0, 4, 0, 12, -1,
            1, 0, 4, 4, 0, 1, 3, 26,
            1, 0, 3, 3, 0, 1, 3, 27,
            1, 0, 2, 2, 0, 1, 2, 28,
            1, 0, 0, 0, 0, 1, 2, 30));
    }
}
