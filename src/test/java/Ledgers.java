/** Ledgers that several tests start from. */
final class Ledgers {
    static final int OPEN = 0;
    static final int SETTLED = 1;
    static final int FORGOTTEN = 2;
    static final int SET_OFF = 3;

    /** Numbers that no person ever bears. */
    static final int[] NOBODY = {-1, 6, 7, Integer.MIN_VALUE, Integer.MAX_VALUE};

    /** Numbers that no slight ever bears. */
    static final int[] NOTHING = {-1, 20, 21, Integer.MIN_VALUE, Integer.MAX_VALUE};

    private Ledgers() {
    }

    static ApologyLedger withPrides(int... prides) {
        ApologyLedger x = new ApologyLedger();
        for (int pride : prides) {
            x.addPerson(pride);
        }
        return x;
    }

    /** Three persons without pride. */
    static ApologyLedger ofThree() {
        return withPrides(0, 0, 0);
    }

    /** Six persons without pride, all of them in the hall. */
    static ApologyLedger fullHall() {
        ApologyLedger x = withPrides(0, 0, 0, 0, 0, 0);
        for (int person = 0; person < 6; person++) {
            x.enter(person);
        }
        return x;
    }

    /** Slight 0 is open, 1 settled, 2 forgotten, 3 set off against what is left of 4: all on the day 30. */
    static ApologyLedger ofEachState() {
        ApologyLedger x = ofThree();
        x.slight(0, 1, 20);
        x.slight(1, 2, 5);
        x.slight(2, 0, 7);
        x.slight(0, 2, 3);
        x.slight(2, 0, 9);
        x.apologize(1, 5);
        x.setOff(3, 4);
        x.pass(29);
        x.mention(0);
        x.mention(4);
        x.pass(1);
        return x;
    }

    static void mentionTimes(ApologyLedger x, int slight, int times) {
        for (int i = 0; i < times; i++) {
            x.mention(slight);
        }
    }
}
