/** Ledgers that several tests start from. */
final class Ledgers {
    static final int OPEN = 0;
    static final int SETTLED = 1;
    static final int FORGOTTEN = 2;
    static final int SET_OFF = 3;

    private Ledgers() {
    }

    static ApologyLedger withPrides(int... prides) {
        ApologyLedger x = new ApologyLedger();
        for (int pride : prides) {
            x.addPerson(pride);
        }
        return x;
    }

    /** So many persons without pride, none of them in the hall. */
    static ApologyLedger ofPersons(int count) {
        return withPrides(new int[count]);
    }

    static ApologyLedger ofThree() {
        return ofPersons(3);
    }

    /** Six persons without pride, all of them in the hall. */
    static ApologyLedger fullHall() {
        ApologyLedger x = ofPersons(6);
        for (int person = 0; person < 6; person++) {
            x.enter(person);
        }
        return x;
    }

    /**
     * A full hall and so many open slights, of the weights 1, 2, 3 and so on: 0 against 1 and 1
     * against 0 by turns, so that the slights 2k and 2k + 1 can be set off.
     */
    static ApologyLedger ofSlights(int count) {
        ApologyLedger x = fullHall();
        for (int i = 0; i < count; i++) {
            x.slight(i % 2, 1 - i % 2, 1 + i);
        }
        return x;
    }

    /** Six persons and twenty slights of the weights 1 to 20: each person against the next one. */
    static ApologyLedger full() {
        ApologyLedger x = fullHall();
        for (int i = 0; i < 20; i++) {
            x.slight(i % 6, (i + 1) % 6, 1 + i);
        }
        return x;
    }

    /** Slight 0, of 0 against 1 among six persons without pride, just made and spoken of up to the weight. */
    static ApologyLedger withWeight(int weight) {
        ApologyLedger x = ofPersons(6);
        x.slight(0, 1, Math.min(weight, 20));
        mentionTimes(x, 0, weight - Math.min(weight, 20));
        return x;
    }

    /** Slight 0, of 0 against 1 of six persons without pride, of the weight 20, quiet for so many days. */
    static ApologyLedger quietFor(int days) {
        ApologyLedger x = ofPersons(6);
        x.slight(0, 1, 20);
        if (days > 0) {
            x.pass(days);
        }
        return x;
    }

    /** Twenty slights of 0 against 1, all of the weight 99, reached by bearing them: quiet for 15 days. */
    static ApologyLedger allAt99() {
        ApologyLedger x = ofPersons(6);
        for (int i = 0; i < 20; i++) {
            x.slight(0, 1, 20);
        }
        for (int times = 0; times < 3; times++) {
            x.pass(25);
            for (int i = 0; i < 20; i++) {
                x.mention(i);
            }
        }
        x.pass(15);
        return x;
    }

    /** Slight 0 is open, 1 settled, 2 forgotten, 3 set off against what is left of 4: all on the day 30. */
    static ApologyLedger ofEachState() {
        ApologyLedger x = ofThree();
        x.slight(0, 1, 20);
        x.slight(1, 2, 5);
        x.slight(2, 0, 7);
        x.slight(0, 2, 3);
        x.slight(2, 0, 9);
        x.apologize(1, 5);
        x.setOff(3, 4);
        x.pass(29);
        x.mention(0);
        x.mention(4);
        x.pass(1);
        return x;
    }

    static void mentionTimes(ApologyLedger x, int slight, int times) {
        for (int i = 0; i < times; i++) {
            x.mention(slight);
        }
    }
}
