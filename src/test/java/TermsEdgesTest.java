/** The boundary cases that "What it is" and "Terms" name, a method for each sentence. */
public final class TermsEdgesTest {
    private static final Checks CHECKS = new Checks();

    /** Weights on both sides of each edge, and what they are when the slight gets heavier by itself. */
    private static final int[][] GROWN = {
        {1, 2}, {2, 3}, {9, 10}, {10, 11}, {11, 12}, {19, 20}, {20, 22}, {29, 31}, {30, 33}, {39, 42},
        {40, 44}, {49, 53}, {50, 55}, {59, 64}, {60, 66}, {69, 75}, {70, 77}, {79, 86}, {80, 88},
        {89, 97}, {90, 99}, {91, 99}, {98, 99}, {99, 99}};

    /** Weights on both sides of each edge, and the least that an apology must be worth to be heard. */
    private static final int[][] HEARD = {
        {1, 0}, {3, 0}, {4, 1}, {7, 1}, {8, 2}, {11, 2}, {12, 3}, {19, 4}, {20, 5}, {23, 5}, {24, 6},
        {79, 19}, {80, 20}, {83, 20}, {84, 21}, {95, 23}, {96, 24}, {98, 24}, {99, 24}};

    private TermsEdgesTest() {
    }

    public static void main(String[] args) {
        theLastCall();
        cutTowardsNothing();
        timeFromNothing();
        sixPersons();
        prideFromNothingToNine();
        notInTheHallAtFirst();
        twentySlights();
        weightAtFirst();
        borneForNoDaysAtFirst();
        openAtFirst();
        noWeightUnlessOpen();
        spokenOf();
        wordsOfAnApology();
        witnesses();
        worth();
        scornedForPride();
        scornedForWeight();
        scorningIsSpeaking();
        settled();
        anApologyIsNotSpeaking();
        setOffBySmallerOne();
        setOffAtNothing();
        onlyOpenOnesAreBorne();
        heavierEachFifthDay();
        heavierByATenthPart();
        forgotten();
        heavierAndForgottenOnOneDay();
        theDayIsOneGreater();
        refusedCallsLeaveNoTrace();
        CHECKS.end();
    }

    private static void theLastCall() {
        CHECKS.sentence("What it is", "An object is used for at most 512 calls after it has been made; what later calls answer is free.");
        ApologyLedger days = new ApologyLedger();
        for (int i = 0; i < 511; i++) {
            days.pass(60);
        }
        CHECKS.same("day(), the call 512, behind 511 times pass(60)", days.day(), 511 * 60);
        ApologyLedger scorns = Ledgers.withPrides(0, 9);
        scorns.slight(0, 1, 1);
        for (int i = 0; i < 508; i++) {
            scorns.apologize(0, 1);
        }
        CHECKS.same("scorned(), the call 512, behind 508 scorned ones", scorns.scorned(), 508);
        ApologyLedger steps = new ApologyLedger();
        for (int i = 0; i < 511; i++) {
            steps.day();
        }
        CHECKS.same("addPerson(5), the call 512", steps.addPerson(5), 0);
    }

    /** Just below the next whole number: a fourth part of 23, and a tenth part of 29 and of 19. */
    private static void cutTowardsNothing() {
        CHECKS.sentence("Terms", "All numbers are whole, and / is cut towards 0.");
        CHECKS.same("apologize(0, 5) at 23", Ledgers.withWeight(23).apologize(0, 5), 18);
        CHECKS.same("apologize(0, 4) at 23", Ledgers.withWeight(23).apologize(0, 4), 24);
        CHECKS.same("weightIn(0, 5) at 29", Ledgers.withWeight(29).weightIn(0, 5), 31);
        CHECKS.same("weightIn(0, 5) at 19", Ledgers.withWeight(19).weightIn(0, 5), 20);
    }

    private static void timeFromNothing() {
        CHECKS.sentence("Terms", "Time is told in days, from 0.");
        ApologyLedger x = new ApologyLedger();
        CHECKS.same("day()", x.day(), 0);
        x.pass(1);
        CHECKS.same("day()", x.day(), 1);
    }

    private static void sixPersons() {
        CHECKS.sentence("Terms", "Persons. At most 6, numbered from 0;");
        ApologyLedger x = new ApologyLedger();
        for (int number = 0; number < 6; number++) {
            CHECKS.same("addPerson(1)", x.addPerson(1), number);
        }
        CHECKS.badState("addPerson(1) with 6", () -> Ledgers.ofPersons(6), y -> y.addPerson(1));
    }

    private static void prideFromNothingToNine() {
        CHECKS.sentence("Terms", "each has a pride, 0 to 9,");
        ApologyLedger x = Ledgers.withPrides(0, 9);
        CHECKS.same("prideOf(0)", x.prideOf(0), 0);
        CHECKS.same("prideOf(1)", x.prideOf(1), 9);
        x.setPride(0, 9);
        x.setPride(1, 0);
        CHECKS.same("prideOf(0)", x.prideOf(0), 9);
        CHECKS.same("prideOf(1)", x.prideOf(1), 0);
    }

    private static void notInTheHallAtFirst() {
        CHECKS.sentence("Terms", "is in the hall or not (not, at first).");
        ApologyLedger x = Ledgers.ofPersons(6);
        for (int person = 0; person < 6; person++) {
            CHECKS.same("isInHall(" + person + ")", x.isInHall(person), false);
        }
    }

    private static void twentySlights() {
        CHECKS.sentence("Terms", "Slights. At most 20, numbered likewise;");
        ApologyLedger x = Ledgers.ofThree();
        for (int number = 0; number < 20; number++) {
            CHECKS.same("slight(0, 1, 1)", x.slight(0, 1, 1), number);
        }
        CHECKS.badState("slight(0, 1, 1) with 20", Ledgers::full, y -> y.slight(0, 1, 1));
    }

    private static void weightAtFirst() {
        CHECKS.sentence("Terms", "has a weight, 1 to 99,");
        CHECKS.same("the least weight", Ledgers.withWeight(1).weightOf(0), 1);
        CHECKS.same("the greatest weight", Ledgers.withWeight(99).weightOf(0), 99);
        ApologyLedger x = Ledgers.allAt99();
        for (int slight = 0; slight < 20; slight++) {
            CHECKS.same("weightOf(" + slight + "), borne to the greatest", x.weightOf(slight), 99);
        }
    }

    private static void borneForNoDaysAtFirst() {
        CHECKS.sentence("Terms", "is borne for some days (0, at first), and nobody has spoken of it for some days (0, at first).");
        ApologyLedger x = Ledgers.quietFor(7);
        x.slight(1, 0, 3);
        CHECKS.same("borneFor(1), new", x.borneFor(1), 0);
        CHECKS.same("quietFor(1), new", x.quietFor(1), 0);
        x.pass(1);
        CHECKS.same("borneFor(1), a day old", x.borneFor(1), 1);
        CHECKS.same("quietFor(1), a day old", x.quietFor(1), 1);
        CHECKS.same("borneFor(0), 8 days old", x.borneFor(0), 8);
    }

    private static void openAtFirst() {
        CHECKS.sentence("Terms", "States: 0 open (at first), 1 settled, 2 forgotten, 3 set off.");
        ApologyLedger x = Ledgers.ofEachState();
        CHECKS.same("slight(0, 1, 1)", x.slight(0, 1, 1), 5);
        CHECKS.same("stateOf(5), new", x.stateOf(5), 0);
        CHECKS.same("stateOf(0), open", x.stateOf(0), 0);
        CHECKS.same("stateOf(1), settled", x.stateOf(1), 1);
        CHECKS.same("stateOf(2), forgotten", x.stateOf(2), 2);
        CHECKS.same("stateOf(3), set off", x.stateOf(3), 3);
    }

    private static void noWeightUnlessOpen() {
        CHECKS.sentence("Terms", "One that is not open has the weight 0.");
        ApologyLedger x = Ledgers.ofEachState();
        for (int slight = 1; slight <= 3; slight++) {
            CHECKS.same("weightOf(" + slight + ")", x.weightOf(slight), 0);
        }
        x.pass(60);
        for (int slight = 0; slight <= 4; slight++) {
            CHECKS.same("weightOf(" + slight + ") long behind", x.weightOf(slight), 0);
        }
    }

    private static void spokenOf() {
        CHECKS.sentence("Terms", "Speaking of an open slight: its weight is 1 more, 99 at the most, and nobody has spoken of it for 0 days.");
        for (int[] weights : new int[][] {{1, 2}, {20, 21}, {97, 98}, {98, 99}, {99, 99}}) {
            ApologyLedger x = Ledgers.withWeight(weights[0]);
            x.pass(4);
            CHECKS.same("mention(0) at " + weights[0], x.mention(0), weights[1]);
            CHECKS.same("quietFor(0)", x.quietFor(0), 0);
            CHECKS.same("borneFor(0)", x.borneFor(0), 4);
        }
        ApologyLedger last = Ledgers.quietFor(29);
        CHECKS.same("mention(0) on the last day", last.mention(0), 31);
        CHECKS.same("quietFor(0)", last.quietFor(0), 0);
    }

    private static void wordsOfAnApology() {
        CHECKS.sentence("Terms", "An apology is made by the offender for an open slight, with some words, 1 to 20.");
        CHECKS.same("apologize(0, 1) at 2", Ledgers.withWeight(2).apologize(0, 1), 1);
        CHECKS.same("apologize(0, 20) at 21", Ledgers.withWeight(21).apologize(0, 20), 1);
        new Edges(CHECKS).numbers("words", 1, 20, () -> Ledgers.withWeight(9), (x, words) -> x.apologize(0, words));
    }

    private static void witnesses() {
        CHECKS.sentence("Terms", "Witnesses are all persons in the hall but the offender and the offended one.");
        ApologyLedger x = Ledgers.withWeight(9);
        CHECKS.same("witnessesFor(0), nobody in the hall", x.witnessesFor(0), 0);
        x.enter(0);
        CHECKS.same("witnessesFor(0), the offender in the hall", x.witnessesFor(0), 0);
        x.enter(1);
        CHECKS.same("witnessesFor(0), both in the hall", x.witnessesFor(0), 0);
        for (int person = 2; person < 6; person++) {
            x.enter(person);
            CHECKS.same("witnessesFor(0), with person " + person, x.witnessesFor(0), person - 1);
        }
        x.enter(0);
        x.enter(1);
        CHECKS.same("witnessesFor(0), all but the two in the hall", x.witnessesFor(0), 4);
    }

    /** So many of the persons 2 to 5 come in. */
    private static ApologyLedger withWitnesses(ApologyLedger x, int count) {
        for (int person = 2; person < 2 + count; person++) {
            x.enter(person);
        }
        return x;
    }

    private static void worth() {
        CHECKS.sentence("Terms", "It is worth as much as it has words, and 2 more for each witness.");
        for (int witnesses = 0; witnesses <= 4; witnesses++) {
            int due = 60 - 20 - 2 * witnesses;
            CHECKS.same("apologize(0, 20) at 60 with " + witnesses + " witnesses",
                withWitnesses(Ledgers.withWeight(60), witnesses).apologize(0, 20), due);
            CHECKS.same("apologize(0, 1) at 12 with " + witnesses + " witnesses",
                withWitnesses(Ledgers.withWeight(12), witnesses).apologize(0, 1), witnesses == 0 ? 13 : 11 - 2 * witnesses);
        }
    }

    private static ApologyLedger proud(int pride, int weight) {
        ApologyLedger x = Ledgers.withWeight(weight);
        x.setPride(1, pride);
        return x;
    }

    private static void scornedForPride() {
        CHECKS.sentence("Terms", "If that is less than the pride of the offended one, or than a fourth part of the slight's weight, cut, it is scorned:");
        CHECKS.same("apologize(0, 1) for the pride 0", proud(0, 3).apologize(0, 1), 2);
        CHECKS.same("apologize(0, 1) for the pride 1", proud(1, 3).apologize(0, 1), 2);
        CHECKS.same("apologize(0, 1) for the pride 2", proud(2, 3).apologize(0, 1), 4);
        CHECKS.same("apologize(0, 8) for the pride 9", proud(9, 12).apologize(0, 8), 13);
        CHECKS.same("apologize(0, 9) for the pride 9", proud(9, 12).apologize(0, 9), 3);
        CHECKS.same("apologize(0, 2) for the pride 9, 3 witnesses", withWitnesses(proud(9, 12), 3).apologize(0, 2), 13);
        CHECKS.same("apologize(0, 3) for the pride 9, 3 witnesses", withWitnesses(proud(9, 12), 3).apologize(0, 3), 3);
        CHECKS.same("apologize(0, 8) for the pride 9, more than the weight", proud(9, 1).apologize(0, 8), 2);
        ApologyLedger x = proud(0, 12);
        x.setPride(0, 9);
        CHECKS.same("apologize(0, 3), the offender's own pride", x.apologize(0, 3), 9);
    }

    private static void scornedForWeight() {
        CHECKS.sentence("Terms", "or than a fourth part of the slight's weight, cut, it is scorned:");
        for (int[] pair : HEARD) {
            int weight = pair[0];
            int least = pair[1];
            int witnesses = least > 20 ? 4 : 0;
            int words = least - 2 * witnesses;
            if (words > 1) {
                CHECKS.same("apologize(0, " + (words - 1) + ") at " + weight + ", scorned",
                    withWitnesses(Ledgers.withWeight(weight), witnesses).apologize(0, words - 1), Math.min(weight + 1, 99));
            }
            int heard = Math.max(words, 1);
            CHECKS.same("apologize(0, " + heard + ") at " + weight + ", heard",
                withWitnesses(Ledgers.withWeight(weight), witnesses).apologize(0, heard),
                weight - heard - 2 * witnesses);
        }
    }

    private static void scorningIsSpeaking() {
        CHECKS.sentence("Terms", "that is spoken of.");
        ApologyLedger x = Ledgers.quietFor(29);
        CHECKS.same("apologize(0, 1) at 30", x.apologize(0, 1), 31);
        CHECKS.same("quietFor(0)", x.quietFor(0), 0);
        CHECKS.same("scorned()", x.scorned(), 1);
        CHECKS.same("pass(29)", x.pass(29), 0);
        CHECKS.same("pass(1)", x.pass(1), 1);
        CHECKS.same("apologize(0, 20) at 98", Ledgers.withWeight(98).apologize(0, 20), 99);
        CHECKS.same("apologize(0, 20) at 99", Ledgers.withWeight(99).apologize(0, 20), 99);
    }

    private static void settled() {
        CHECKS.sentence("Terms", "Otherwise the slight's weight is as much less; with 0 or less it is settled.");
        int[][] behind = {{9, 1, Ledgers.OPEN}, {10, 0, Ledgers.SETTLED}, {11, 0, Ledgers.SETTLED}, {20, 0, Ledgers.SETTLED}};
        for (int[] due : behind) {
            ApologyLedger x = Ledgers.withWeight(10);
            CHECKS.same("apologize(0, " + due[0] + ") at 10", x.apologize(0, due[0]), due[1]);
            CHECKS.same("weightOf(0)", x.weightOf(0), due[1]);
            CHECKS.same("stateOf(0)", x.stateOf(0), due[2]);
        }
        CHECKS.same("apologize(0, 1) at 1", Ledgers.withWeight(1).apologize(0, 1), 0);
        CHECKS.same("apologize(0, 20) at 28 with 4 witnesses", withWitnesses(Ledgers.withWeight(28), 4).apologize(0, 20), 0);
        CHECKS.same("apologize(0, 20) at 29 with 4 witnesses", withWitnesses(Ledgers.withWeight(29), 4).apologize(0, 20), 1);
    }

    private static void anApologyIsNotSpeaking() {
        CHECKS.sentence("Terms", "That is not speaking of it.");
        ApologyLedger x = Ledgers.quietFor(29);
        CHECKS.same("apologize(0, 20) at 30", x.apologize(0, 20), 10);
        CHECKS.same("quietFor(0)", x.quietFor(0), 29);
        CHECKS.same("scorned()", x.scorned(), 0);
        CHECKS.same("pass(1)", x.pass(1), 1);
        ApologyLedger y = Ledgers.quietFor(5);
        CHECKS.same("apologize(0, 11) at 22", y.apologize(0, 11), 11);
        CHECKS.same("apologize(0, 11) at 11", y.apologize(0, 11), 0);
        CHECKS.same("quietFor(0), settled", y.quietFor(0), 5);
        CHECKS.same("borneFor(0), settled", y.borneFor(0), 5);
    }

    /** Slight 0 of the weight one, and slight 1 of the weight other against it. */
    private static ApologyLedger againstEachOther(int one, int other) {
        ApologyLedger x = Ledgers.withWeight(one);
        x.slight(1, 0, Math.min(other, 20));
        Ledgers.mentionTimes(x, 1, other - Math.min(other, 20));
        return x;
    }

    private static void setOffBySmallerOne() {
        CHECKS.sentence("Terms", "Setting off two open slights, of which each one's offender is the one offended by the other: the weights of both are less by the smaller one;");
        int[][] pairs = {{1, 1}, {1, 2}, {2, 1}, {1, 99}, {99, 1}, {98, 99}, {99, 98}, {99, 99}, {20, 7}};
        for (int[] pair : pairs) {
            int less = pair[0] < pair[1] ? pair[0] : pair[1];
            ApologyLedger x = againstEachOther(pair[0], pair[1]);
            CHECKS.same("setOff(0, 1) of " + pair[0] + " and " + pair[1], x.setOff(0, 1), less);
            CHECKS.same("weightOf(0)", x.weightOf(0), pair[0] - less);
            CHECKS.same("weightOf(1)", x.weightOf(1), pair[1] - less);
            ApologyLedger y = againstEachOther(pair[0], pair[1]);
            CHECKS.same("setOff(1, 0) of " + pair[0] + " and " + pair[1], y.setOff(1, 0), less);
        }
    }

    private static void setOffAtNothing() {
        CHECKS.sentence("Terms", "one with 0 then is set off.");
        int[][] due = {{5, 5, 3, 3}, {5, 6, 3, 0}, {6, 5, 0, 3}, {1, 99, 3, 0}, {99, 99, 3, 3}};
        for (int[] each : due) {
            ApologyLedger x = againstEachOther(each[0], each[1]);
            x.setOff(0, 1);
            CHECKS.same("stateOf(0) of " + each[0] + " and " + each[1], x.stateOf(0), each[2]);
            CHECKS.same("stateOf(1) of " + each[0] + " and " + each[1], x.stateOf(1), each[3]);
        }
    }

    private static void onlyOpenOnesAreBorne() {
        CHECKS.sentence("Terms", "Each open slight, by numbers, is borne for a day more, and nobody has spoken of it for a day more.");
        ApologyLedger x = Ledgers.ofEachState();
        int[] borne = {30, 0, 30, 0, 30};
        int[] quiet = {1, 0, 30, 0, 1};
        x.pass(1);
        for (int slight = 0; slight < 5; slight++) {
            int more = slight == 0 || slight == 4 ? 1 : 0;
            CHECKS.same("borneFor(" + slight + ")", x.borneFor(slight), borne[slight] + more);
            CHECKS.same("quietFor(" + slight + ")", x.quietFor(slight), quiet[slight] + more);
        }
        ApologyLedger full = Ledgers.full();
        full.pass(1);
        CHECKS.same("borneFor(0) of twenty", full.borneFor(0), 1);
        CHECKS.same("borneFor(19) of twenty", full.borneFor(19), 1);
        CHECKS.same("quietFor(19) of twenty", full.quietFor(19), 1);
    }

    /** Spoken of each 25 days, so that it is not forgotten; made on the day 3, so that days and age differ. */
    private static void heavierEachFifthDay() {
        CHECKS.sentence("Terms", "If it is borne for a number of days that 5 divides, its weight is a tenth part of it more,");
        ApologyLedger x = Ledgers.ofThree();
        x.pass(3);
        x.slight(0, 1, 20);
        int[] due = {20, 22, 24, 26, 28, 31, 34, 37, 40, 44, 49, 53, 58, 63, 69, 76, 83, 91, 99, 99, 99};
        for (int days = 1; days <= 100; days++) {
            x.pass(1);
            if (days % 25 == 0) {
                x.mention(0);
            }
            CHECKS.same("weightOf(0), borne for " + days + " days", x.weightOf(0), due[days / 5]);
        }
    }

    private static void heavierByATenthPart() {
        CHECKS.sentence("Terms", "its weight is a tenth part of it more, cut, but 1 more at least, and 99 at the most.");
        for (int[] pair : GROWN) {
            ApologyLedger x = Ledgers.withWeight(pair[0]);
            x.pass(4);
            CHECKS.same("weightOf(0) at " + pair[0] + " behind 4 days", x.weightOf(0), pair[0]);
            x.pass(1);
            CHECKS.same("weightOf(0) at " + pair[0] + " behind 5 days", x.weightOf(0), pair[1]);
            x.pass(1);
            CHECKS.same("weightOf(0) at " + pair[0] + " behind 6 days", x.weightOf(0), pair[1]);
        }
    }

    private static void forgotten() {
        CHECKS.sentence("Terms", "If nobody has spoken of it for 30 days then, it is forgotten.");
        ApologyLedger x = Ledgers.quietFor(29);
        CHECKS.same("stateOf(0), quiet for 29 days", x.stateOf(0), Ledgers.OPEN);
        x.pass(1);
        CHECKS.same("stateOf(0), quiet for 30 days", x.stateOf(0), Ledgers.FORGOTTEN);
        ApologyLedger spokenOf = Ledgers.quietFor(29);
        spokenOf.mention(0);
        spokenOf.pass(29);
        CHECKS.same("stateOf(0), spoken of on the day 29, quiet for 29 days", spokenOf.stateOf(0), Ledgers.OPEN);
        spokenOf.pass(1);
        CHECKS.same("stateOf(0), spoken of on the day 29, quiet for 30 days", spokenOf.stateOf(0), Ledgers.FORGOTTEN);
        ApologyLedger setOff = Ledgers.quietFor(29);
        setOff.slight(1, 0, 1);
        setOff.setOff(0, 1);
        CHECKS.same("pass(1), set off on the day 29", setOff.pass(1), 1);
    }

    /** The day 30 is one on which it gets heavier too. */
    private static void heavierAndForgottenOnOneDay() {
        CHECKS.sentence("Terms", "One that is not open has the weight 0.");
        ApologyLedger x = Ledgers.quietFor(30);
        CHECKS.same("weightOf(0)", x.weightOf(0), 0);
        CHECKS.same("borneFor(0)", x.borneFor(0), 30);
        CHECKS.same("quietFor(0)", x.quietFor(0), 30);
        x.pass(60);
        CHECKS.same("weightOf(0) long behind", x.weightOf(0), 0);
        CHECKS.same("stateOf(0) long behind", x.stateOf(0), Ledgers.FORGOTTEN);
    }

    private static void theDayIsOneGreater() {
        CHECKS.sentence("Terms", "The day is 1 greater.");
        ApologyLedger x = Ledgers.full();
        for (int day = 1; day <= 40; day++) {
            x.pass(1);
            CHECKS.same("day()", x.day(), day);
        }
    }

    /** Two ledgers are led alike, but one of them is refused every call there is in between. */
    private static void refusedCallsLeaveNoTrace() {
        CHECKS.sentence("Terms", "A method that throws an exception changes nothing.");
        ApologyLedger x = Ledgers.ofEachState();
        ApologyLedger plain = Ledgers.ofEachState();
        int refused = refuseAll(x);
        CHECKS.same("refused calls", refused, 34);
        CHECKS.same("digest()", x.digest(), plain.digest());
        CHECKS.same("addPerson(4)", x.addPerson(4), plain.addPerson(4));
        CHECKS.same("slight(3, 1, 2)", x.slight(3, 1, 2), plain.slight(3, 1, 2));
        refuseAll(x);
        CHECKS.same("mention(0)", x.mention(0), plain.mention(0));
        CHECKS.same("apologize(0, 9)", x.apologize(0, 9), plain.apologize(0, 9));
        CHECKS.same("pass(30)", x.pass(30), plain.pass(30));
        refuseAll(x);
        CHECKS.same("pass(60)", x.pass(60), plain.pass(60));
        CHECKS.same("scorned()", x.scorned(), plain.scorned());
        CHECKS.same("digest()", x.digest(), plain.digest());
    }

    /** Says how many of the calls threw; on at most 5 persons and 19 slights, of which 1 to 3 are not open. */
    private static int refuseAll(ApologyLedger x) {
        Runnable[] calls = {
            () -> x.addPerson(-1), () -> x.addPerson(10), () -> x.enter(-1), () -> x.enter(5),
            () -> x.slight(-1, 0, 1), () -> x.slight(0, 5, 1), () -> x.slight(0, 0, 1), () -> x.slight(0, 1, 0),
            () -> x.slight(0, 1, 21), () -> x.mention(-1), () -> x.mention(1), () -> x.mention(2),
            () -> x.mention(3), () -> x.apologize(19, 1), () -> x.apologize(0, 0), () -> x.apologize(0, 21),
            () -> x.apologize(1, 1), () -> x.apologize(2, 1), () -> x.apologize(3, 20), () -> x.setOff(-1, 0),
            () -> x.setOff(0, 19), () -> x.setOff(0, 0), () -> x.setOff(0, 1), () -> x.setOff(3, 4),
            () -> x.setPride(-1, 1), () -> x.setPride(0, 10), () -> x.setPride(0, -1), () -> x.pass(0),
            () -> x.pass(61), () -> x.inState(4), () -> x.wouldBeScorned(0, 0), () -> x.weightIn(0, 61),
            () -> x.borneIn(0, 0), () -> x.worstToKeep(5)};
        int refused = 0;
        for (Runnable call : calls) {
            try {
                call.run();
            } catch (RuntimeException e) {
                refused++;
            }
        }
        return refused;
    }
}
